import java.io.IOException;
import java.nio.file.Files;
import java.nio.file.Path;
import java.util.regex.Matcher;
import java.util.regex.Pattern;

/** What ../shared/LANGUAGE.md leaves out does not stand in the class, as far as its text alone can tell it. */
public final class LanguageTest {
    private static final String[] LEFT_OUT = {
        "->", "::", "\\bfinally\\b", "\\bcatch\\b", "\\bsynchronized\\b", "\\bassert\\b", "\\bprotected \\w", "\\bwhile \\(true\\)",
        "\\bString\\.", "\\bDouble\\b", "\\bFloat\\b", "\\bThread\\b", "\\bSystem\\.(?!arraycopy\\()", "\\w+Exact\\(",
        "\" *\\+|\\+ *\"", "\\bvar\\b", "\\bimport (?!java\\.util\\.NoSuchElementException;)", "^package\\b",
    };

    public static void main(String[] args) throws IOException {
        String source = Files.readString(Path.of(System.getProperty("office")));
        String code = source.replaceAll("(?s)/\\*.*?\\*/", "").replaceAll("//[^\n]*", "");
        for (String pattern : LEFT_OUT) {
            Matcher found = Pattern.compile(pattern, Pattern.MULTILINE).matcher(code);
            Check.due("a use of " + pattern, found.find() ? found.group() : "none", "none");
        }
        Check.due("signs beyond 127", source.chars().filter(c -> c > 127).count(), 0L);
        methodsAreShort(source);
        Check.end();
    }

    // A method of the class begins behind four blanks, one of an inner class behind eight.
    private static void methodsAreShort(String source) {
        String[] lines = source.split("\n");
        for (String indent : new String[] {"    ", "        "}) {
            int begin = -1;
            for (int k = 0; k < lines.length; k++) {
                if (lines[k].matches(indent + "\\w.*\\) *(throws .*)?\\{") && !lines[k].contains(" class ")) {
                    begin = k;
                } else if (lines[k].equals(indent + "}") && begin >= 0) {
                    Check.due("line " + (begin + 1) + ", a method of up to 60 lines", k - begin <= 60, true);
                    begin = -1;
                }
            }
        }
    }
}
