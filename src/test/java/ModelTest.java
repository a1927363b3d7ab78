import java.lang.reflect.InvocationTargetException;
import java.lang.reflect.Method;
import java.util.ArrayList;
import java.util.Arrays;
import java.util.Comparator;
import java.util.List;
import java.util.Random;

/** Runs of calls with drawn arguments on both offices: each answer and each exception is the same. */
public final class ModelTest {
    private static final int RUNS = 400;
    private static final int CALLS = 512;
    private static final String WRITING = "insert insert insert insert insert insert addField addField erase setStyle";

    private final Random random;
    private final SealOffice office = new SealOffice();
    private final OfficeModel model = new OfficeModel();
    private final List<String> history = new ArrayList<>();
    // What is drawn differs by the run, so that some fill up, some are read much, and some go wrong often.
    private final int wildness;
    private final int writing;

    private ModelTest(long seed) {
        random = new Random(seed);
        wildness = new int[] {2, 5, 20}[(int) (seed % 3)];
        writing = new int[] {20, 50, 80}[(int) (seed / 3 % 3)];
    }

    public static void main(String[] args) throws Exception {
        int runs = args.length > 0 ? Integer.parseInt(args[0]) : RUNS;
        long first = args.length > 1 ? Long.parseLong(args[1]) : 1;
        Method[] face = face();
        for (long seed = first; seed < first + runs; seed++) {
            ModelTest test = new ModelTest(seed);
            int filled = (int) (seed % 4) * 65;
            test.fill(filled);
            for (int call = filled + 1; call < CALLS; call++) {
                if (!test.agrees(face)) {
                    System.out.println("run " + seed + ", call " + call + ", the last ones:");
                    int from = Math.max(0, test.history.size() - 40);
                    test.history.subList(from, test.history.size()).forEach(System.out::println);
                    System.exit(1);
                }
            }
        }
        System.out.println(runs + " runs agree");
    }

    // Some runs begin with much text, so that they reach the most units; that takes a call more than there are units.
    private void fill(int units) {
        office.setTracking(units == 65);
        model.setTracking(units == 65);
        for (int k = 0; k < units; k++) {
            char letter = sign("insert");
            office.insert(0, k, letter);
            model.insert(0, k, letter);
        }
    }

    private static Method[] face() {
        List<Method> list = new ArrayList<>();
        for (Method m : SealOffice.class.getDeclaredMethods()) {
            if (java.lang.reflect.Modifier.isPublic(m.getModifiers())) {
                list.add(m);
            }
        }
        list.sort(Comparator.comparing(Method::getName));
        return list.toArray(new Method[0]);
    }

    private static Method named(Method[] face, String name) {
        return Arrays.stream(face).filter(m -> m.getName().equals(name)).findFirst().orElseThrow();
    }

    private boolean agrees(Method[] face) throws Exception {
        String[] writers = WRITING.split(" ");
        Method call = random.nextInt(100) < writing
                ? named(face, writers[random.nextInt(writers.length)]) : face[random.nextInt(face.length)];
        Object[] args = arguments(call);
        Method other = OfficeModel.class.getDeclaredMethod(call.getName(), call.getParameterTypes());
        String got = answer(office, call, args);
        String want = answer(model, other, args);
        history.add(call.getName() + Arrays.toString(args) + " answered " + got + ", due is " + want);
        return got.equals(want);
    }

    private static String answer(Object target, Method call, Object[] args) throws Exception {
        try {
            return String.valueOf(call.invoke(target, args));
        } catch (InvocationTargetException e) {
            if (e.getCause() instanceof Error) {
                throw (Error) e.getCause();
            }
            return e.getCause().getClass().getName();
        }
    }

    private Object[] arguments(Method call) {
        Class<?>[] types = call.getParameterTypes();
        Object[] args = new Object[types.length];
        for (int k = 0; k < types.length; k++) {
            boolean isWild = random.nextInt(100) < wildness;
            if (types[k] == boolean.class) {
                args[k] = random.nextBoolean();
            } else if (types[k] == char.class) {
                args[k] = isWild ? (char) random.nextInt(300) : sign(call.getName());
            } else {
                args[k] = isWild ? wild() : number(call.getName(), k);
            }
        }
        return args;
    }

    private int wild() {
        int[] edges = {-2, -1, 0, 1, 2, 3, 4, 5, 6, 7, 8, 19, 20, 21, 60, 61, 99, 100, 200, 201, 9999, 10000,
            Integer.MAX_VALUE, Integer.MIN_VALUE};
        return edges[random.nextInt(edges.length)];
    }

    private char sign(String name) {
        String signs = name.equals("insert") ? "ab cdz //  yx" : name.equals("addField") ? "npplcr" : "dar";
        return signs.charAt(random.nextInt(signs.length()));
    }

    private int number(String name, int k) {
        switch (name) {
            case "insert": case "addField": case "erase":
                return k == 0 ? random.nextInt(3) : k == 3 ? random.nextInt(3) : place(name);
            case "setStyle":
                return k == 0 ? random.nextInt(4) : k == 1 ? paragraph() : random.nextInt(8);
            case "setBookmark":
                return k == 0 ? random.nextInt(4) : place(name);
            case "unitAt": case "paragraphOf": case "changeAt": case "pageOf": case "lineOf": case "oldAt":
                return place(name);
            case "kindOf": case "authorOf": case "stateOf": case "unitsOf": case "accept": case "refuse":
                return random.nextInt(model.changes() + 1);
            case "judge":
                return random.nextInt(5) - 1;
            case "addStyle":
                return k == 0 ? random.nextInt(9) - 1 : random.nextInt(3) - 1;
            case "setList":
                return k == 0 ? paragraph() : k == 1 ? random.nextInt(5) / 2 - 1 + random.nextInt(2) : random.nextInt(3);
            case "restart":
                return k == 0 ? paragraph() : random.nextInt(4) == 0 ? 0 : random.nextInt(100);
            case "setKind": case "setLegal":
                return random.nextInt(3);
            case "lineAt":
                return random.nextInt(12);
            case "bookmarkFrom": case "bookmarkTo":
                return random.nextInt(5);
            case "lock": case "result":
                return random.nextInt(12);
            case "setRecord":
                return k == 0 ? random.nextInt(5) : k == 1 ? random.nextInt(3) : record();
            case "choose":
                return random.nextInt(5);
            case "merge":
                return k == 0 ? random.nextInt(3) : random.nextInt(2);
            case "setPage":
                return k == 0 ? 5 + random.nextInt(random.nextBoolean() ? 5 : 56) : 2 + random.nextInt(random.nextBoolean() ? 4 : 39);
            default:
                return paragraph();
        }
    }

    private int record() {
        return new int[] {0, 1, 10, 100, 1000, 9999}[random.nextInt(6)];
    }

    private int place(String name) {
        int length = model.length();
        if (name.equals("erase") && random.nextInt(3) > 0) {
            return Math.min(length, random.nextInt(6));
        }
        return random.nextInt(length + 1);
    }

    private int paragraph() {
        return random.nextInt(model.paragraphs() + (random.nextInt(10) == 0 ? 1 : 0));
    }
}
