import java.io.IOException;
import java.io.UncheckedIOException;
import java.lang.reflect.Method;
import java.lang.reflect.Modifier;
import java.nio.file.Files;
import java.nio.file.Path;
import java.util.ArrayList;
import java.util.LinkedHashMap;
import java.util.List;
import java.util.Map;
import java.util.TreeSet;
import java.util.regex.Matcher;
import java.util.regex.Pattern;
import java.util.stream.Stream;

/** README.md: what it says is so, its commands and its example as they stand there. */
final class ReadmeTests {
    private static final String MAIN = "src/main/java/SteppedSpines.java";
    private static final String EXAMPLE = "src/example/java/Example.java";

    private final Path root;
    private final String text;

    private ReadmeTests(Path root) throws IOException {
        this.root = root;
        text = Files.readString(root.resolve("README.md"));
    }

    static void runAll(String file) throws Exception {
        Path root = Path.of(file).toAbsolutePath();
        for (int i = 0; i < Path.of(MAIN).getNameCount(); i++) {
            root = root.getParent();
        }
        ReadmeTests readme = new ReadmeTests(root);
        Checks.test("readme: the example is the file", readme::exampleIsTheFile);
        Checks.test("readme: the commands print what it says", readme::commandsPrint);
        Checks.test("readme: the command of the tests", readme::commandOfTheTests);
        Checks.test("readme: the calls of the example", ReadmeTests::callsOfTheExample);
        Checks.test("readme: the table is the face", readme::tableIsTheFace);
        Checks.test("readme: each call of the table", readme::callsOfTheTable);
        Checks.test("readme: what each letter stands for", readme::letters);
        Checks.test("readme: the files that it names", readme::filesThatItNames);
        Checks.test("readme: the classes of tests are named, and run", readme::classesOfTests);
    }

    /** The blocks of code in one language, in their order. */
    private List<String> blocks(String language) {
        List<String> blocks = new ArrayList<>();
        Matcher matcher = Pattern.compile("(?s)```" + language + "\n(.*?)```").matcher(text);
        while (matcher.find()) {
            blocks.add(matcher.group(1));
        }
        return blocks;
    }

    private void exampleIsTheFile() {
        Checks.due("java blocks", blocks("java").size(), 1);
        Checks.due("the example", blocks("java").get(0), read(root.resolve(EXAMPLE)));
    }

    private static String read(Path path) {
        try {
            return Files.readString(path);
        } catch (IOException e) {
            throw new UncheckedIOException(e);
        }
    }

    /** In a folder with nothing but the class and the example, so that nothing else can help them. */
    private void commandsPrint() {
        Checks.due("blocks of commands", blocks("sh").size(), 2);
        Checks.due("blocks of what is printed", blocks("text").size(), 1);
        try {
            Path folder = Files.createTempDirectory("readme");
            try {
                copy(MAIN, folder);
                copy(EXAMPLE, folder);
                StringBuilder printed = new StringBuilder();
                for (String command : blocks("sh").get(0).split("\n")) {
                    printed.append(run(command, folder));
                }
                Checks.due("what is printed", printed.toString(), blocks("text").get(0));
            } finally {
                delete(folder);
            }
        } catch (IOException | InterruptedException e) {
            throw new IllegalStateException(e);
        }
    }

    private void copy(String name, Path folder) throws IOException {
        Files.createDirectories(folder.resolve(name).getParent());
        Files.copy(root.resolve(name), folder.resolve(name));
    }

    private static String run(String command, Path folder) throws IOException, InterruptedException {
        Process process = new ProcessBuilder(command.split(" ")).directory(folder.toFile())
                .redirectError(ProcessBuilder.Redirect.INHERIT).start();
        process.getOutputStream().close();
        String printed = new String(process.getInputStream().readAllBytes());
        Checks.due("the code that " + command + " ends with", process.waitFor(), 0);
        return printed;
    }

    private static void delete(Path folder) throws IOException {
        List<Path> paths;
        try (Stream<Path> all = Files.walk(folder)) {
            paths = all.sorted((a, b) -> b.getNameCount() - a.getNameCount()).toList();
        }
        for (Path path : paths) {
            Files.delete(path);
        }
    }

    private void commandOfTheTests() {
        Checks.due("the command", blocks("sh").get(1), ".ci/run\n");
        Checks.due("it can be run", Files.isExecutable(root.resolve(".ci/run")) ? 1 : 0, 1);
        String script = read(root.resolve(".ci/run"));
        Checks.due("it uses bash", script.startsWith("#!/bin/bash\n") ? 1 : 0, 1);
        Checks.due("it runs AllTests", script.contains(" AllTests ") ? 1 : 0, 1);
        Checks.due("it looks under ../shared/tests", script.contains("../shared/tests") ? 1 : 0, 1);
    }

    private static void callsOfTheExample() {
        SteppedSpines spines = new SteppedSpines();
        Checks.due("set(0, 3)", spines.set(0, 3), 8);
        Checks.due("gather(1)", spines.gather(1), 1);
        Checks.due("gather(0)", spines.gather(0), 2);
        Checks.due("gather(2)", spines.gather(2), 3);
        Checks.due("count(2)", spines.count(2), 6);
        Checks.due("count(3)", spines.count(3), 1);
        Checks.due("nextMove()", spines.nextMove(), 1);
        Checks.due("move(0, 1)", spines.move(0, 1), 0);
        Checks.due("count(2)", spines.count(2), 0);
        Checks.due("count(3)", spines.count(3), SteppedSpines.NONE);
        Checks.due("bind()", spines.bind(), 1);
        Checks.due("append()", Steps.type(spines, "g0;g1;f1;b;g2"), 13);
        Checks.due("work()", spines.work(), 3);
        Checks.due("count(14)", spines.count(14), 3);
        Checks.refused(spines, "bind()", Steps.STATE, spines::bind);
        Checks.due("count(2)", spines.count(2), 2);
        Checks.due("undo()", spines.undo(), 5);
        Checks.due("count(0)", spines.count(0), 0);
        Checks.due("nextMove()", spines.nextMove(), SteppedSpines.NONE);
    }

    /** The rows of the table, each as its cells: the call, the answer, what it throws, whether it is undoable. */
    private List<String[]> rows() {
        List<String[]> rows = new ArrayList<>();
        for (String line : text.split("\n")) {
            if (line.startsWith("| `")) {
                String[] cells = line.substring(1, line.length() - 1).split("\\|", -1);
                for (int i = 0; i < cells.length; i++) {
                    cells[i] = cells[i].trim();
                }
                rows.add(cells);
            }
        }
        return rows;
    }

    private void tableIsTheFace() {
        TreeSet<String> due = new TreeSet<>();
        for (Method method : SteppedSpines.class.getDeclaredMethods()) {
            if (Modifier.isPublic(method.getModifiers())) {
                StringBuilder letters = new StringBuilder();
                for (Class<?> type : method.getExceptionTypes()) {
                    letters.append(' ').append(letter(type));
                }
                due.add(method.getReturnType() + " " + method.getName() + " " + method.getParameterCount() + letters);
            }
        }
        TreeSet<String> got = new TreeSet<>();
        for (String[] cells : rows()) {
            String arguments = cells[0].substring(cells[0].indexOf('(') + 1, cells[0].indexOf(')'));
            int count = arguments.isEmpty() ? 0 : arguments.split(",").length;
            String type = cells[1].substring(1, cells[1].indexOf('`', 1));
            got.add((type + " " + name(cells) + " " + count + " " + cells[2]).trim());
        }
        Checks.due("rows", rows().size(), due.size());
        Checks.due("the table", got.toString(), due.toString());
    }

    private static String name(String[] cells) {
        return cells[0].substring(1, cells[0].indexOf('('));
    }

    private static char letter(Class<?> exception) {
        return exception == Steps.BOUNDS ? 'B' : exception == Steps.ARGUMENT ? 'A' : exception == Steps.STATE ? 'S' : '?';
    }

    private interface Shown {
        long answer(SteppedSpines spines);
    }

    /** A book of two sheets that could be bound, a snapshot of one sheet, work in the buffer, three saved states. */
    private static SteppedSpines shown() {
        SteppedSpines spines = Steps.bookOf(2, 0);
        spines.keep();
        spines.gather(1);
        Steps.type(spines, "f0;g9");
        return spines;
    }

    /** Each call as its name, with the call itself and, in due, its answer. */
    private static Map<String, Shown> calls(Map<String, Long> due) {
        Map<String, Shown> calls = new LinkedHashMap<>();
        put(calls, due, "gather", 3, spines -> spines.gather(4));
        put(calls, due, "insert", 3, spines -> spines.insert(1, 4));
        put(calls, due, "pull", 1, spines -> spines.pull(1));
        put(calls, due, "flip", 4, spines -> spines.flip(0));
        put(calls, due, "move", 2, spines -> spines.move(0, 1));
        put(calls, due, "bind", 1, SteppedSpines::bind);
        put(calls, due, "print", 11, spines -> spines.print(4, 9));
        put(calls, due, "punch", 31, spines -> spines.punch(4, 9));
        put(calls, due, "set", 2, spines -> spines.set(2, 7));
        put(calls, due, "append", 6, spines -> spines.append(';'));
        put(calls, due, "clearBuffer", 5, SteppedSpines::clearBuffer);
        put(calls, due, "firstError", 5, SteppedSpines::firstError);
        put(calls, due, "work", 2, SteppedSpines::work);
        put(calls, due, "keep", 2, SteppedSpines::keep);
        put(calls, due, "goBack", 1, SteppedSpines::goBack);
        put(calls, due, "undo", 2, SteppedSpines::undo);
        put(calls, due, "sheet", 1, spines -> spines.sheet(1, 2));
        put(calls, due, "bin", 1, spines -> spines.bin(1, 0));
        put(calls, due, "count", 18, spines -> spines.count(10));
        put(calls, due, "setting", 5, spines -> spines.setting(1));
        put(calls, due, "nextMove", -1, SteppedSpines::nextMove);
        put(calls, due, "ifPulled", 5, spines -> spines.ifPulled(1, 1));
        put(calls, due, "fits", 2, SteppedSpines::fits);
        put(calls, due, "books", 2, SteppedSpines::books);
        put(calls, due, "stairShare", 100, spines -> Math.round(100 * spines.stairShare()));
        put(calls, due, "meanThread", 900, spines -> Math.round(100 * spines.meanThread()));
        put(calls, due, "digest", Steps.digestOf(shown(), true, "f0;g9"), SteppedSpines::digest);
        return calls;
    }

    private static void put(Map<String, Shown> calls, Map<String, Long> due, String name, long answer, Shown call) {
        calls.put(name, call);
        due.put(name, answer);
    }

    private void callsOfTheTable() {
        Map<String, Long> due = new LinkedHashMap<>();
        Map<String, Shown> calls = calls(due);
        List<String> names = new ArrayList<>();
        for (String[] cells : rows()) {
            String name = name(cells);
            names.add(name);
            SteppedSpines spines = shown();
            int saved = spines.count(15);
            Checks.due(name, calls.get(name).answer(spines), due.get(name));
            Checks.due(name + " saves a state", spines.count(15) > saved ? "yes" : "no", cells[3]);
        }
        Checks.due("the calls", names.toString(), calls.keySet().toString());
    }

    private void letters() {
        String folded = text.replaceAll("\\s+", " ");
        for (Class<?> exception : new Class<?>[] {Steps.BOUNDS, Steps.ARGUMENT, Steps.STATE}) {
            String told = letter(exception) + " is `" + exception.getSimpleName() + "`";
            Checks.due(told, folded.contains(told) ? 1 : 0, 1);
        }
        Checks.due("NONE", folded.contains("`SteppedSpines.NONE` is " + SteppedSpines.NONE) ? 1 : 0, 1);
    }

    private void filesThatItNames() {
        TreeSet<String> names = new TreeSet<>();
        Matcher matcher = Pattern.compile("(?:\\.\\./shared|src/|\\.ci/)[A-Za-z/.]*").matcher(text);
        while (matcher.find()) {
            names.add(matcher.group());
            Checks.due("there is " + matcher.group(), Files.exists(root.resolve(matcher.group())) ? 1 : 0, 1);
        }
        for (String name : new String[] {MAIN, EXAMPLE, "../shared/DOC.md", "../shared/LANGUAGE.md", ".ci/run"}) {
            Checks.due("it names " + name, names.contains(name) ? 1 : 0, 1);
        }
    }

    /** A class with tests that AllTests does not start would not be run. */
    private void classesOfTests() {
        String all = read(root.resolve("src/test/java/AllTests.java"));
        try (Stream<Path> files = Files.list(root.resolve("src/test/java"))) {
            for (Path path : files.sorted().toList()) {
                String name = path.getFileName().toString().replace(".java", "");
                if (!name.equals("AllTests") && read(path).contains("static void runAll(")) {
                    Checks.due(name + " is run", all.contains(name + ".runAll(") ? 1 : 0, 1);
                    Checks.due(name + " is named", text.contains("`" + name + "`") ? 1 : 0, 1);
                }
            }
        } catch (IOException e) {
            throw new UncheckedIOException(e);
        }
    }
}
