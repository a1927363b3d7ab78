import java.io.IOException;
import java.lang.reflect.Constructor;
import java.lang.reflect.Field;
import java.lang.reflect.Method;
import java.lang.reflect.Modifier;
import java.nio.file.Files;
import java.nio.file.Path;
import java.util.Arrays;
import java.util.TreeSet;
import java.util.regex.Matcher;
import java.util.regex.Pattern;

/** The face: each constructor and method of the document, as it is written there, and nothing else. */
public final class FaceTest {
    private static final String BOUNDS = "IndexOutOfBoundsException";
    private static final String ARGUMENT = "IllegalArgumentException";
    private static final String STATE = "IllegalStateException";
    private static final String UNSUPPORTED = "UnsupportedOperationException";
    private static final String NONE = "NoSuchElementException";
    private static final String[] FACE = {
        "boolean setTracking(boolean)",
        "int insert(int, int, char) " + BOUNDS + " " + ARGUMENT + " " + STATE + " " + UNSUPPORTED,
        "int addField(int, int, char, int) " + BOUNDS + " " + ARGUMENT + " " + STATE + " " + UNSUPPORTED,
        "int erase(int, int, int) " + BOUNDS + " " + ARGUMENT + " " + STATE + " " + UNSUPPORTED,
        "int setStyle(int, int, int) " + BOUNDS + " " + STATE + " " + UNSUPPORTED,
        "boolean protect(int, boolean) " + BOUNDS,
        "int undo() " + NONE,
        "int redo() " + NONE,
        "int length()",
        "char unitAt(int) " + BOUNDS,
        "int oldLength()",
        "char oldAt(int) " + BOUNDS,
        "int paragraphs()",
        "int paragraphOf(int) " + BOUNDS,
        "int startOf(int) " + BOUNDS,
        "int changes()",
        "char kindOf(int) " + BOUNDS,
        "int authorOf(int) " + BOUNDS,
        "char stateOf(int) " + BOUNDS,
        "int unitsOf(int) " + BOUNDS,
        "int changeAt(int) " + BOUNDS + " " + NONE,
        "int accept(int) " + BOUNDS + " " + STATE,
        "int refuse(int) " + BOUNDS + " " + STATE,
        "int judge(int, boolean) " + BOUNDS,
        "int addStyle(int, boolean, int) " + ARGUMENT + " " + STATE,
        "int styleOf(int) " + BOUNDS,
        "boolean isBold(int) " + BOUNDS,
        "int setList(int, int, int) " + BOUNDS + " " + ARGUMENT + " " + UNSUPPORTED,
        "int restart(int, int) " + BOUNDS + " " + ARGUMENT + " " + UNSUPPORTED,
        "char setKind(int, int, char) " + ARGUMENT,
        "boolean setLegal(int, boolean) " + ARGUMENT,
        "int numberOf(int) " + BOUNDS,
        "int writeNumber(int) " + BOUNDS + " " + NONE,
        "char lineAt(int) " + BOUNDS,
        "int setBookmark(int, int, int) " + BOUNDS + " " + ARGUMENT,
        "int bookmarkFrom(int) " + BOUNDS + " " + NONE,
        "int bookmarkTo(int) " + BOUNDS + " " + NONE,
        "boolean lock(int, boolean) " + BOUNDS,
        "int result(int) " + BOUNDS,
        "int update()",
        "int setRecord(int, int, int) " + ARGUMENT,
        "int choose(int) " + ARGUMENT,
        "int merge(int, int) " + ARGUMENT,
        "int setPage(int, int) " + ARGUMENT,
        "int pages()",
        "int pageOf(int) " + BOUNDS,
        "int lineOf(int) " + BOUNDS,
        "float waitingShare() ArithmeticException",
        "int shareBits() ArithmeticException",
        "double meanParagraph()",
        "long meanBits()",
        "boolean isSound()",
    };

    // What the interface says ahead of which calls, and these in their order.
    private static final String[] GROUPS = {
        "writing: setTracking insert addField erase setStyle protect undo redo",
        "text: length unitAt oldLength oldAt paragraphs paragraphOf startOf",
        "changes: changes kindOf authorOf stateOf unitsOf changeAt accept refuse judge",
        "styles and lists: addStyle styleOf isBold setList restart setKind setLegal numberOf writeNumber lineAt",
        "bookmarks and fields: setBookmark bookmarkFrom bookmarkTo lock result update",
        "records and pages: setRecord choose merge setPage pages pageOf lineOf",
        "figures: waitingShare shareBits meanParagraph meanBits isSound",
    };

    public static void main(String[] args) throws IOException {
        Class<?> office = SealOffice.class;
        Check.due("the class is public and final", office.getModifiers(), Modifier.PUBLIC | Modifier.FINAL);
        Constructor<?>[] made = office.getDeclaredConstructors();
        Check.due("constructors", made.length, 1);
        Check.due("the constructor", made[0].toString(), "public SealOffice()");
        TreeSet<String> face = new TreeSet<>();
        TreeSet<String> names = new TreeSet<>();
        for (Method m : office.getDeclaredMethods()) {
            if (!Modifier.isPrivate(m.getModifiers())) {
                Check.due(m.getName() + " is public", m.getModifiers(), Modifier.PUBLIC);
                face.add(written(m));
                names.add(m.getName());
            }
        }
        Check.due("the methods", String.join("\n", face), String.join("\n", new TreeSet<>(Arrays.asList(FACE))));
        hidden(office, names);
        for (Class<?> inner : office.getDeclaredClasses()) {
            Check.due(inner + " is static", Modifier.isStatic(inner.getModifiers()), true);
            Check.due(inner + " is not public", Modifier.isPublic(inner.getModifiers()), false);
            hidden(inner, names);
        }
        Check.due("the groups", groups(Files.readString(Path.of(System.getProperty("office")))), String.join("\n", GROUPS));
        Check.end();
    }

    private static String groups(String source) {
        StringBuilder groups = new StringBuilder();
        Matcher found = Pattern.compile("^    (?:// ---- (.*)|public \\w+ (\\w+)\\(.*)$", Pattern.MULTILINE).matcher(source);
        while (found.find() && !"what the calls share".equals(found.group(1))) {
            boolean isHead = found.group(1) != null;
            groups.append(isHead && groups.length() > 0 ? "\n" : "");
            groups.append(isHead ? found.group(1) + ":" : " " + found.group(2));
        }
        return groups.toString();
    }

    private static String written(Method m) {
        StringBuilder text = new StringBuilder();
        text.append(m.getReturnType()).append(' ').append(m.getName()).append('(');
        String[] types = Arrays.stream(m.getParameterTypes()).map(Class::getName).toArray(String[]::new);
        text.append(String.join(", ", types)).append(')');
        for (Class<?> thrown : m.getExceptionTypes()) {
            text.append(' ').append(thrown.getSimpleName());
        }
        return text.toString();
    }

    private static void hidden(Class<?> type, TreeSet<String> names) {
        for (Field f : type.getDeclaredFields()) {
            Check.due(f + " is private", Modifier.isPrivate(f.getModifiers()), true);
            Check.due(f + " is final, if static", !Modifier.isStatic(f.getModifiers()) || Modifier.isFinal(f.getModifiers()), true);
        }
        for (Method m : type.getDeclaredMethods()) {
            if (type != SealOffice.class || Modifier.isPrivate(m.getModifiers())) {
                Check.due(m + " bears the name of a public one", names.contains(m.getName()), false);
            }
        }
    }
}
