import java.util.ArrayList;
import java.util.List;
import java.util.NoSuchElementException;
import java.util.function.BiFunction;
import java.util.function.Function;

/**
 * A run of calls that is made again on a new office whenever something is asked. So no office is used for more than
 * 512 calls, and one that refused a call can be compared with one that was never asked.
 */
final class Story {
    private static final int MOST_CALLS = 512;

    /** What is asked of an office, and how many calls that takes at most. */
    private record Question(String name, int calls, Function<SealOffice, Object> ask) { }

    private final List<Function<SealOffice, Object>> steps;

    Story() {
        steps = List.of();
    }

    private Story(List<Function<SealOffice, Object>> steps) {
        this.steps = steps;
    }

    /** A text that belongs to no change, and tracking from then on. */
    static Story plain(String text) {
        return new Story().then(x -> x.setTracking(false)).type(0, 0, text).then(x -> x.setTracking(true));
    }

    /** 60 letters, each of another change than the one ahead; the authors are 0 and 1 in turn. */
    static Story fullOfChanges() {
        Story story = new Story();
        for (int k = 0; k < 60; k++) {
            int place = k;
            story = story.then(x -> x.insert(place % 2, place, 'a'));
        }
        return story;
    }

    /** The same story with one call more. */
    Story then(Function<SealOffice, Object> call) {
        List<Function<SealOffice, Object>> more = new ArrayList<>(steps);
        more.add(call);
        return new Story(more);
    }

    Story type(int author, int place, String text) {
        Story story = this;
        for (int k = 0; k < text.length(); k++) {
            int at = k;
            story = story.then(x -> x.insert(author, place + at, text.charAt(at)));
        }
        return story;
    }

    /** The same call, so many times. */
    Story times(int many, Function<SealOffice, Object> call) {
        Story story = this;
        for (int k = 0; k < many; k++) {
            story = story.then(call);
        }
        return story;
    }

    SealOffice office() {
        SealOffice x = new SealOffice();
        for (Function<SealOffice, Object> step : steps) {
            step.apply(x);
        }
        return x;
    }

    /** What a call answers at the end of the story: a value, or the name of an exception. */
    void answers(String what, Object want, Function<SealOffice, Object> call) {
        Check.due(what, answer(office(), call), want);
    }

    void outOfBounds(String what, Function<SealOffice, Object> call) {
        refuses(what, IndexOutOfBoundsException.class, call);
    }

    void badArgument(String what, Function<SealOffice, Object> call) {
        refuses(what, IllegalArgumentException.class, call);
    }

    void badState(String what, Function<SealOffice, Object> call) {
        refuses(what, IllegalStateException.class, call);
    }

    void unsupported(String what, Function<SealOffice, Object> call) {
        refuses(what, UnsupportedOperationException.class, call);
    }

    void noElement(String what, Function<SealOffice, Object> call) {
        refuses(what, NoSuchElementException.class, call);
    }

    void arithmetic(String what, Function<SealOffice, Object> call) {
        refuses(what, ArithmeticException.class, call);
    }

    /** Of all signs that there are, those that a call takes; each is given to it at the end of the story. */
    String signsTaken(BiFunction<SealOffice, Character, Object> call) {
        StringBuilder taken = new StringBuilder();
        SealOffice x = office();
        int left = MOST_CALLS - steps.size();
        for (int sign = 0; sign <= Character.MAX_VALUE; sign++) {
            char given = (char) sign;
            boolean isTaken = !answer(x, y -> call.apply(y, given)).equals(IllegalArgumentException.class.getName());
            if (isTaken) {
                taken.append(given);
            }
            left--;
            if (isTaken || left == 0) {
                x = office();
                left = MOST_CALLS - steps.size();
            }
        }
        return taken.toString();
    }

    // The call throws this, and nothing that a later call shows is other than without it.
    private void refuses(String what, Class<? extends RuntimeException> want, Function<SealOffice, Object> call) {
        answers(what, want.getName(), call);
        List<Question> questions = questions();
        int at = 0;
        while (at < questions.size()) {
            SealOffice untouched = office();
            SealOffice refusing = office();
            answer(refusing, call);
            int left = MOST_CALLS - steps.size() - 1;
            if (questions.get(at).calls > left) {
                throw new AssertionError("the story is too long for the question " + questions.get(at).name);
            }
            while (at < questions.size() && questions.get(at).calls <= left) {
                Question question = questions.get(at);
                left -= question.calls;
                at++;
                Check.due(what + ", refused, then " + question.name, answer(refusing, question.ask),
                        answer(untouched, question.ask));
            }
        }
    }

    private static Object answer(SealOffice x, Function<SealOffice, Object> call) {
        try {
            return call.apply(x);
        } catch (RuntimeException e) {
            return e.getClass().getName();
        }
    }

    // First all that reads, then the past, then all that tells what was there before.
    private List<Question> questions() {
        SealOffice x = office();
        List<Question> all = new ArrayList<>();
        one(all, "length", y -> y.length());
        one(all, "oldLength", y -> y.oldLength());
        one(all, "paragraphs", y -> y.paragraphs());
        one(all, "changes", y -> y.changes());
        one(all, "pages", y -> y.pages());
        one(all, "shareBits", y -> y.shareBits());
        one(all, "meanBits", y -> y.meanBits());
        one(all, "isSound", y -> y.isSound());
        readText(all, x.length(), x.oldLength());
        readParagraphs(all, x.paragraphs());
        readChanges(all, x.changes());
        readNumbered(all);
        all.add(new Question("the past", 150, Story::past));
        all.add(new Question("update", 21, Story::updated));
        one(all, "merge", y -> y.merge(0, -1));
        askSettings(all);
        askEdits(all, x.paragraphs());
        return all;
    }

    private static void one(List<Question> all, String name, Function<SealOffice, Object> ask) {
        all.add(new Question(name, 1, ask));
    }

    private static void readText(List<Question> all, int length, int oldLength) {
        for (int k = 0; k <= length; k++) {
            int place = k;
            one(all, "unitAt " + k, y -> y.unitAt(place));
            one(all, "changeAt " + k, y -> y.changeAt(place));
            one(all, "paragraphOf " + k, y -> y.paragraphOf(place));
            one(all, "pageOf " + k, y -> y.pageOf(place));
            one(all, "lineOf " + k, y -> y.lineOf(place));
        }
        for (int k = 0; k <= oldLength; k++) {
            int index = k;
            one(all, "oldAt " + k, y -> y.oldAt(index));
        }
    }

    private static void readParagraphs(List<Question> all, int paragraphs) {
        for (int k = 0; k <= paragraphs; k++) {
            int paragraph = k;
            one(all, "startOf " + k, y -> y.startOf(paragraph));
            one(all, "styleOf " + k, y -> y.styleOf(paragraph));
            one(all, "isBold " + k, y -> y.isBold(paragraph));
            one(all, "numberOf " + k, y -> y.numberOf(paragraph));
        }
    }

    private static void readChanges(List<Question> all, int changes) {
        for (int k = 0; k <= changes; k++) {
            int change = k;
            one(all, "kindOf " + k, y -> y.kindOf(change));
            one(all, "authorOf " + k, y -> y.authorOf(change));
            one(all, "stateOf " + k, y -> y.stateOf(change));
            one(all, "unitsOf " + k, y -> y.unitsOf(change));
        }
    }

    private static void readNumbered(List<Question> all) {
        for (int k = 0; k < 6; k++) {
            int bookmark = k;
            one(all, "bookmarkFrom " + k, y -> y.bookmarkFrom(bookmark));
            one(all, "bookmarkTo " + k, y -> y.bookmarkTo(bookmark));
        }
        for (int k = 0; k <= 20; k++) {
            int field = k;
            one(all, "result " + k, y -> y.result(field));
        }
        for (int k = 0; k < 12; k++) {
            int index = k;
            one(all, "lineAt " + k, y -> y.lineAt(index));
        }
    }

    // All that can be done again, then all that can be undone.
    private static Object past(SealOffice x) {
        StringBuilder past = new StringBuilder();
        for (int k = 0; k < 7; k++) {
            past.append(answer(x, y -> y.redo())).append(figures(x));
        }
        for (int k = 0; k < 13; k++) {
            past.append(answer(x, y -> y.undo())).append(figures(x));
        }
        return past;
    }

    private static String figures(SealOffice x) {
        return "(" + x.length() + " " + x.oldLength() + " " + x.changes() + " " + x.styleOf(0) + " "
                + answer(x, y -> y.result(0)) + " " + answer(x, y -> y.bookmarkTo(0)) + ") ";
    }

    private static Object updated(SealOffice x) {
        StringBuilder results = new StringBuilder();
        results.append(x.update());
        for (int k = 0; k < 20; k++) {
            int field = k;
            results.append(' ').append(answer(x, y -> y.result(field)));
        }
        return results;
    }

    private static void askSettings(List<Question> all) {
        one(all, "setTracking", y -> y.setTracking(true));
        one(all, "setPage", y -> y.setPage(5, 2));
        one(all, "choose", y -> y.choose(1));
        for (int k = 0; k < 15; k++) {
            int at = k;
            one(all, "setRecord " + k, y -> y.setRecord(at / 3, at % 3, 1));
        }
        for (int k = 0; k < 9; k++) {
            int at = k;
            one(all, "setKind " + k, y -> y.setKind(at / 3, at % 3, 'r'));
        }
        for (int k = 0; k < 3; k++) {
            int list = k;
            one(all, "setLegal " + k, y -> y.setLegal(list, false));
        }
        for (int k = 0; k <= 20; k++) {
            int field = k;
            one(all, "lock " + k, y -> y.lock(field, true));
        }
        one(all, "addStyle", y -> y.addStyle(-1, true, 1));
    }

    private static void askEdits(List<Question> all, int paragraphs) {
        for (int k = 0; k < paragraphs; k++) {
            int paragraph = k;
            one(all, "writeNumber " + k, y -> y.writeNumber(paragraph));
            one(all, "protect " + k, y -> y.protect(paragraph, false));
            one(all, "restart " + k, y -> y.restart(paragraph, 3));
            one(all, "setList " + k, y -> y.setList(paragraph, 1, 1));
        }
        one(all, "addField", y -> y.addField(0, 0, 'c', 0));
        one(all, "insert", y -> y.insert(2, 0, 'a'));
    }
}
