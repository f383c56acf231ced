import java.nio.file.Files;
import java.nio.file.Path;
import java.util.regex.Matcher;
import java.util.regex.Pattern;

/** The signs, imports and words that the rules of the language leave. */
final class LanguageTests {
    private static final String[] FORBIDDEN = {
        "->", "::", "\\bfinally\\b", "\\btry\\b", "\\bcatch\\b", "\\bassert\\b", "\\bsynchronized\\b",
        "\\bprotected\\b", "\\bhashCode\\b", "\\bequals\\b", "\\btoString\\b", "Exact\\b", "\\bDouble\\b",
        "\\bFloat\\b", "\\bSystem\\.(?!arraycopy\\b)", "\\bThread\\b", "\\bnative\\b", "\\bstatic \\{", "\" \\+",
    };

    private LanguageTests() {
    }

    static void runAll(String file) throws Exception {
        String text = Files.readString(Path.of(file));
        String code = withoutComments(text);
        Checks.test("language: signs", () -> Checks.due("signs beyond 126",
                text.chars().filter(c -> c > 126).count(), 0L));
        Checks.test("language: imports", () -> imports(code));
        Checks.test("language: forbidden words", () -> forbidden(code));
    }

    private static String withoutComments(String text) {
        return text.replaceAll("(?s)/\\*.*?\\*/", "").replaceAll("//[^\n]*", "");
    }

    private static void imports(String code) {
        Matcher matcher = Pattern.compile("(?m)^(import|package)\\b.*$").matcher(code);
        while (matcher.find()) {
            Checks.due("the line", matcher.group(), "import java.util.Arrays;");
        }
    }

    private static void forbidden(String code) {
        for (String word : FORBIDDEN) {
            Checks.due("found " + word, Pattern.compile(word).matcher(code).find() ? 1 : 0, 0);
        }
    }
}
