import java.nio.file.Files;
import java.nio.file.Path;
import java.util.List;
import java.util.regex.Matcher;
import java.util.regex.Pattern;

/** The rules of the language that a reading of the text can find broken. */
final class LanguageTests {
    private static final String[] FORBIDDEN = {
        "->", "::", "\\bfinally\\b", "\\btry\\b", "\\bcatch\\b", "\\bassert\\b", "\\bsynchronized\\b",
        "\\bprotected\\b", "\\bhashCode\\b", "\\bequals\\b", "\\btoString\\b", "Exact\\b", "\\bDouble\\b",
        "\\bFloat\\b", "\\bSystem\\.(?!arraycopy\\b)", "\\bThread\\b", "\\bnative\\b", "\\bstatic \\{", "\" \\+",
    };

    private LanguageTests() {
    }

    static void runAll(String file) throws Exception {
        String text = Files.readString(Path.of(file));
        String code = withoutComments(text);
        Checks.test("language: signs", () -> Checks.due("signs beyond 126",
                text.chars().filter(c -> c > 126).count(), 0L));
        Checks.test("language: imports", () -> imports(code));
        Checks.test("language: forbidden words", () -> forbidden(code));
        Checks.test("language: objects are made in fields and constructors only", () -> objects(code));
        Checks.test("language: methods are short", () -> shortMethods(text));
    }

    private static String withoutComments(String text) {
        return text.replaceAll("(?s)/\\*.*?\\*/", "").replaceAll("//[^\n]*", "");
    }

    private static void imports(String code) {
        Matcher matcher = Pattern.compile("(?m)^(import|package)\\b.*$").matcher(code);
        while (matcher.find()) {
            Checks.due("the line", matcher.group(), "import java.util.Arrays;");
        }
    }

    private static void forbidden(String code) {
        for (String word : FORBIDDEN) {
            Checks.due("found " + word, Pattern.compile(word).matcher(code).find() ? 1 : 0, 0);
        }
    }

    /** All else that is made would be counted for each call. */
    private static void objects(String code) {
        for (String line : code.split("\n")) {
            boolean isField = line.matches("    +(private )?final .*= new .*");
            boolean isThrow = line.matches(" +throw new [A-Za-z]+\\(\"[^\"]*\"\\);");
            boolean isSavedState = line.matches(" +states\\[i\\] = new State\\(\\);");
            boolean makes = line.contains("new ");
            Checks.due("made in: " + line, makes && !isField && !isThrow && !isSavedState ? 1 : 0, 0);
        }
    }

    private static void shortMethods(String text) {
        List<String> lines = text.lines().toList();
        int start = -1;
        for (int i = 0; i < lines.size(); i++) {
            String line = lines.get(i);
            if (line.endsWith("{") && line.contains("(") && line.matches(" {4}( {4})?[a-z].*")
                    && !line.trim().matches("(if|for|while|switch|else|do)\\b.*")) {
                start = i;
            }
            if (start >= 0 && i - start >= 60 && !line.isBlank() && line.startsWith("        ")) {
                Checks.due("length of the method at line " + (start + 1), i - start, 60);
                start = -1;
            }
            if (line.matches(" {4}( {4})?}")) {
                start = start >= 0 && indent(lines.get(start)) == indent(line) ? -1 : start;
            }
        }
    }

    private static int indent(String line) {
        return line.length() - line.stripLeading().length();
    }
}
