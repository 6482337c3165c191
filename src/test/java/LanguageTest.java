import java.io.IOException;
import java.nio.file.Files;
import java.nio.file.Path;
import java.util.List;
import java.util.regex.Matcher;
import java.util.regex.Pattern;

/** Some rules of ../shared/LANGUAGE.md, as far as the text of the program shows them. */
final class LanguageTest {
    /** What the program does without, or the rules leave out. */
    private static final List<String> ABSENT = List.of("->", "::", "\\btry\\b", "\\bcatch\\b", "\\bfinally\\b",
            "\\bsynchronized\\b", "\\bassert\\b", "\\bprotected\\b", "^package\\b", "\\bstatic\\s*\\{",
            "Exact\\b", "\\.equals\\b", "\\.hashCode\\b", "\\.toString\\b", "\\[\\]\\[\\]\\[\\]",
            "\\bSystem\\.(?!arraycopy)", "\\bArrays\\.(?!fill|copyOf)", "\\bMath\\.(?!min|max|abs)", "@");

    public static void main(String[] args) throws IOException {
        String source = Files.readString(Path.of("src/main/java/PianoRounds.java"));
        String code = source.replaceAll("(?s)/\\*.*?\\*/", "").replaceAll("//[^\n]*", "");
        for (String each : ABSENT) {
            Matcher found = Pattern.compile(each, Pattern.MULTILINE).matcher(code);
            if (found.find()) {
                Check.fail("the program has " + found.group());
            }
        }
        Check.due("imports", count(code, "^import "), 1);
        Check.due("import of Arrays", count(code, "^import java\\.util\\.Arrays;"), 1);
        atMost("classes", count(code, "\\bclass \\w"), 12);
        Check.due("signs above 126", count(source, "[^\\n -~]"), 0);
        methodsStayShort(code);
        Check.end();
    }

    private static int count(String code, String pattern) {
        return (int) Pattern.compile(pattern, Pattern.MULTILINE).matcher(code).results().count();
    }

    private static void atMost(String what, int got, int most) {
        if (got > most) {
            Check.fail(what + ": " + got + ", at most " + most);
        }
    }

    private static void methodsStayShort(String code) {
        String start = "";
        int length = 0;
        for (String line : code.split("\n")) {
            if (line.matches(" {4}( {4})?\\S.*\\) .*\\{")) {
                start = line.trim();
                length = 0;
            }
            length++;
            if (line.matches(" {4}( {4})?\\}")) {
                atMost("lines of " + start, length, 60);
                length = 0;
            }
        }
    }
}
