import java.io.IOException;
import java.nio.file.Files;
import java.nio.file.Path;
import java.lang.reflect.Field;
import java.lang.reflect.Method;
import java.lang.reflect.Modifier;
import java.util.ArrayList;
import java.util.Arrays;
import java.util.List;
import java.util.Map;
import java.util.Set;
import java.util.TreeMap;
import java.util.TreeSet;
import java.util.regex.Matcher;
import java.util.regex.Pattern;

/** What ../shared/LANGUAGE.md leaves out does not stand in the class, as far as its text and its members can tell it. */
public final class LanguageTest {
    private static final String[] LEFT_OUT = {
        "->", "::", "\\bfinally\\b", "\\bcatch\\b", "\\bsynchronized\\b", "\\bassert\\b", "\\bprotected \\w",
        "\\bwhile \\(true\\)",
        "\\bString\\.", "\\bDouble\\b", "\\bFloat\\b", "\\bThread\\b", "\\bSystem\\.(?!arraycopy\\()", "\\w+Exact\\(",
        "\" *\\+|\\+ *\"", "\\bvar\\b", "\\bimport (?!java\\.util\\.NoSuchElementException;)", "^package\\b",
    };
    private static final int MOST_LINES = 60;
    private static final int MOST_PARAMETERS = 7;
    private static final int MOST_CLASSES = 12;
    private static final int MOST_FIELDS = 20;
    private static final int MOST_DEPTH = 8;
    // A method of the class begins behind four blanks, one of an inner class behind eight; a constructor has no type.
    private static final Pattern METHOD = Pattern.compile(
            "( {4}| {8})(?:(?:public|private|static|final) )*[\\w\\[\\]]+ (\\w+)\\(.*\\{");
    private static final Pattern CALL = Pattern.compile("(\\w+)\\(");

    public static void main(String[] args) throws IOException {
        String source = Files.readString(Path.of(System.getProperty("office")));
        String code = source.replaceAll("(?s)/\\*.*?\\*/", "").replaceAll("//[^\n]*", "");
        for (String pattern : LEFT_OUT) {
            Matcher found = Pattern.compile(pattern, Pattern.MULTILINE).matcher(code);
            Check.due("a use of " + pattern, found.find() ? found.group() : "none", "none");
        }
        Check.due("signs beyond 127", source.chars().filter(c -> c > 127).count(), 0L);
        methodsAreShort(source.split("\n"));
        callsAreShallow(code.replaceAll("\"[^\"\n]*\"", "\"\"").split("\n"));
        classesAreSmall();
        Check.end();
    }

    private static void methodsAreShort(String[] lines) {
        for (int k = 0; k < lines.length; k++) {
            Matcher method = METHOD.matcher(lines[k]);
            if (method.matches()) {
                int many = Arrays.asList(lines).subList(k, lines.length).indexOf(method.group(1) + "}");
                Check.due(method.group(2) + " has up to 60 lines", many <= MOST_LINES, true);
            }
        }
    }

    // Methods with one name count as one here, so the calls go at least as deep as in truth.
    private static void callsAreShallow(String[] lines) {
        Map<String, Set<String>> calls = new TreeMap<>();
        Set<String> inside = new TreeSet<>();
        for (String line : lines) {
            Matcher method = METHOD.matcher(line);
            if (method.matches()) {
                inside = calls.computeIfAbsent(method.group(2), name -> new TreeSet<>());
            } else {
                CALL.matcher(line).results().map(call -> call.group(1)).forEach(inside::add);
            }
        }
        Check.due("methods are found", calls.size() > 100, true);
        for (String name : calls.keySet()) {
            List<String> deepest = deepest(name, calls, List.of());
            Check.due("calls of " + name + " go eight deep at most: " + deepest, deepest.size() <= MOST_DEPTH, true);
        }
    }

    private static List<String> deepest(String name, Map<String, Set<String>> calls, List<String> above) {
        List<String> path = new ArrayList<>(above);
        path.add(name);
        if (above.contains(name)) {
            Check.due("calls that come back", path, "none");
            return path;
        }
        List<String> deepest = path;
        for (String next : calls.get(name)) {
            List<String> below = calls.containsKey(next) ? deepest(next, calls, path) : path;
            deepest = below.size() > deepest.size() ? below : deepest;
        }
        return deepest;
    }

    private static void classesAreSmall() {
        List<Class<?>> classes = new ArrayList<>(List.of(SealOffice.class.getDeclaredClasses()));
        classes.add(SealOffice.class);
        Check.due("up to twelve classes", classes.size() <= MOST_CLASSES, true);
        for (Class<?> type : classes) {
            int fields = 0;
            for (Field field : type.getDeclaredFields()) {
                fields += Modifier.isStatic(field.getModifiers()) ? 0 : 1;
            }
            Check.due(type + " has up to twenty fields", fields <= MOST_FIELDS, true);
            for (Method method : type.getDeclaredMethods()) {
                Check.due(method + " has up to seven parameters", method.getParameterCount() <= MOST_PARAMETERS, true);
            }
        }
    }
}
