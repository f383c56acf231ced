import java.lang.reflect.Constructor;
import java.lang.reflect.Field;
import java.lang.reflect.Method;
import java.lang.reflect.Modifier;
import java.util.ArrayList;
import java.util.Collections;
import java.util.List;
import java.util.TreeSet;

/** The public face is the document's, and nothing else can be seen from outside. */
final class FaceTests {
    private static final String BOUNDS = "IndexOutOfBoundsException";
    private static final String ARGUMENT = "IllegalArgumentException";
    private static final String STATE = "IllegalStateException";

    private FaceTests() {
    }

    static void runAll() {
        Checks.test("face: methods", FaceTests::methods);
        Checks.test("face: constructor and constants", FaceTests::constructorAndConstants);
        Checks.test("face: no private method bears the name of a public one", FaceTests::privateNames);
    }

    private static void methods() {
        List<String> due = new ArrayList<>(List.of(
                "int gather(int) " + BOUNDS + " " + STATE,
                "int insert(int int) " + BOUNDS + " " + STATE,
                "int pull(int) " + BOUNDS,
                "int flip(int) " + BOUNDS,
                "int move(int int) " + BOUNDS,
                "int bind() " + STATE,
                "int print(int int) " + BOUNDS + " " + ARGUMENT + " " + STATE,
                "int punch(int int) " + BOUNDS + " " + ARGUMENT,
                "int set(int int) " + BOUNDS + " " + ARGUMENT,
                "int append(int) " + ARGUMENT + " " + STATE,
                "int clearBuffer()",
                "int firstError()",
                "int work() " + ARGUMENT,
                "int keep()",
                "int goBack() " + STATE,
                "int undo() " + STATE,
                "int sheet(int int) " + BOUNDS + " " + ARGUMENT,
                "int bin(int int) " + BOUNDS + " " + ARGUMENT,
                "int count(int) " + ARGUMENT,
                "int setting(int) " + BOUNDS,
                "int nextMove()",
                "int ifPulled(int int) " + BOUNDS + " " + ARGUMENT,
                "int fits()",
                "int books()",
                "double stairShare()",
                "float meanThread()",
                "long digest()"));
        List<String> got = new ArrayList<>();
        for (Method method : SteppedSpines.class.getDeclaredMethods()) {
            if (!Modifier.isPrivate(method.getModifiers()) && !method.isSynthetic()) {
                Checks.due(method.getName() + " is public", Modifier.toString(method.getModifiers()), "public");
                got.add(told(method));
            }
        }
        Collections.sort(due);
        Collections.sort(got);
        Checks.due("the methods", got.toString(), due.toString());
    }

    private static String told(Method method) {
        StringBuilder text = new StringBuilder(method.getReturnType().getSimpleName());
        text.append(' ').append(method.getName()).append('(');
        String between = "";
        for (Class<?> type : method.getParameterTypes()) {
            text.append(between).append(type.getSimpleName());
            between = " ";
        }
        text.append(')');
        for (Class<?> type : method.getExceptionTypes()) {
            text.append(' ').append(type.getSimpleName());
        }
        return text.toString();
    }

    private static void constructorAndConstants() {
        Checks.due("the class", Modifier.toString(SteppedSpines.class.getModifiers()), "public final");
        Constructor<?>[] constructors = SteppedSpines.class.getDeclaredConstructors();
        Checks.due("constructors", constructors.length, 1);
        Checks.due("the constructor", constructors[0].toString(), "public SteppedSpines()");
        for (Field field : SteppedSpines.class.getDeclaredFields()) {
            boolean isPrivate = Modifier.isPrivate(field.getModifiers());
            Checks.due(field.getName() + " is private", isPrivate || field.getName().equals("NONE") ? 1 : 0, 1);
            if (field.getName().equals("NONE")) {
                Checks.due("NONE", field.toString(), "public static final int SteppedSpines.NONE");
            }
        }
        Checks.due("NONE", SteppedSpines.NONE, -1);
    }

    private static void privateNames() {
        TreeSet<String> names = new TreeSet<>();
        for (Method method : SteppedSpines.class.getMethods()) {
            names.add(method.getName());
        }
        refuseNames(SteppedSpines.class, names);
        for (Class<?> inside : SteppedSpines.class.getDeclaredClasses()) {
            Checks.due(inside + " is static", Modifier.isStatic(inside.getModifiers()) ? 1 : 0, 1);
            Checks.due(inside + " is public", Modifier.isPublic(inside.getModifiers()) ? 1 : 0, 0);
            refuseNames(inside, names);
        }
    }

    private static void refuseNames(Class<?> owner, TreeSet<String> names) {
        for (Method method : owner.getDeclaredMethods()) {
            boolean isFace = Modifier.isPublic(method.getModifiers());
            Checks.due(method + " bears a public name", !isFace && names.contains(method.getName()) ? 1 : 0, 0);
        }
    }
}
