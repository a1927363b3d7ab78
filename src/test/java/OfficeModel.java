import java.util.ArrayDeque;
import java.util.ArrayList;
import java.util.Deque;
import java.util.HashMap;
import java.util.List;
import java.util.Map;
import java.util.NoSuchElementException;

/**
 * A second office, written from the document alone and with all of the Java library, to which ModelTest
 * compares the first one. It holds units as objects, copies all of them for each edit, and lays pages out
 * from texts.
 */
final class OfficeModel {
    static final class Unit {
        final int id;
        final char letter;
        final int field;
        Change writer;
        Change eraser;
        int style;
        int list = -1;
        int level;
        int restart;
        boolean guarded;
        Change styler;
        int keptStyle;

        Unit(int id, char letter, int field) {
            this.id = id;
            this.letter = letter;
            this.field = field;
        }
    }

    static final class Change {
        final int number;
        final char kind;
        final int author;
        char state = 'w';

        Change(int number, char kind, int author) {
            this.number = number;
            this.kind = kind;
            this.author = author;
        }
    }

    /** What undoing gives back. The last unit is the last end. */
    static final class Copy {
        final List<Unit> units = new ArrayList<>();
        final List<Change> changes = new ArrayList<>();
        final Map<Integer, int[]> bookmarks = new HashMap<>();
        final int[] results = new int[20];

        Copy copy() {
            Copy c = new Copy();
            Map<Change, Change> same = new HashMap<>();
            for (Change old : changes) {
                Change now = new Change(old.number, old.kind, old.author);
                now.state = old.state;
                same.put(old, now);
                c.changes.add(now);
            }
            for (Unit old : units) {
                Unit now = new Unit(old.id, old.letter, old.field);
                now.writer = same.get(old.writer);
                now.eraser = same.get(old.eraser);
                now.styler = same.get(old.styler);
                now.style = old.style;
                now.list = old.list;
                now.level = old.level;
                now.restart = old.restart;
                now.guarded = old.guarded;
                now.keptStyle = old.keptStyle;
                c.units.add(now);
            }
            bookmarks.forEach((k, v) -> c.bookmarks.put(k, v.clone()));
            System.arraycopy(results, 0, c.results, 0, 20);
            return c;
        }
    }

    record Style(int parent, boolean turns, int keeps) { }

    record FieldKind(char kind, int of) { }

    record Spot(int page, int line) { }

    private boolean tracking = true;
    private int nextId = 1;
    private Copy now = new Copy();
    private final Deque<Copy> undos = new ArrayDeque<>();
    private final Deque<Copy> redos = new ArrayDeque<>();
    private final List<Style> styles = new ArrayList<>(List.of(new Style(-1, false, 0)));
    private final List<FieldKind> fields = new ArrayList<>();
    private final boolean[] locked = new boolean[20];
    private final char[][] kinds = {{'d', 'd', 'd'}, {'d', 'd', 'd'}, {'d', 'd', 'd'}};
    private final boolean[] legal = new boolean[3];
    private String line = "";
    private final int[][] records = new int[5][3];
    private int chosen;
    private int width = 20;
    private int height = 8;

    OfficeModel() {
        now.units.add(new Unit(0, '/', -1));
    }

    // ---- helpers

    private static boolean waits(Change c) {
        return c != null && c.state == 'w';
    }

    private List<Unit> seen() {
        List<Unit> list = new ArrayList<>();
        for (Unit u : now.units) {
            if (!waits(u.eraser)) {
                list.add(u);
            }
        }
        return list;
    }

    private List<List<Unit>> seenParagraphs() {
        List<List<Unit>> all = new ArrayList<>();
        List<Unit> one = new ArrayList<>();
        for (Unit u : seen()) {
            one.add(u);
            if (u.letter == '/') {
                all.add(one);
                one = new ArrayList<>();
            }
        }
        return all;
    }

    private static void bounds(boolean good) {
        if (!good) {
            throw new IndexOutOfBoundsException();
        }
    }

    private static void argument(boolean good) {
        if (!good) {
            throw new IllegalArgumentException();
        }
    }

    private static void state(boolean good) {
        if (!good) {
            throw new IllegalStateException();
        }
    }

    private static void supported(boolean good) {
        if (!good) {
            throw new UnsupportedOperationException();
        }
    }

    private void place(int place) {
        bounds(place >= 0 && place <= length());
    }

    private Unit end(int paragraph) {
        bounds(paragraph >= 0 && paragraph < paragraphs());
        List<Unit> units = seenParagraphs().get(paragraph);
        return units.get(units.size() - 1);
    }

    private Change change(int change) {
        bounds(change >= 0 && change < now.changes.size());
        return now.changes.get(change);
    }

    private void edit() {
        undos.addLast(now);
        if (undos.size() > 6) {
            undos.removeFirst();
        }
        redos.clear();
        now = now.copy();
    }

    private Change begin(char kind, int author) {
        Change c = new Change(now.changes.size(), kind, author);
        now.changes.add(c);
        return c;
    }

    private void remove(Unit unit) {
        int at = now.units.indexOf(unit);
        int next = now.units.get(at + 1).id;
        for (int[] ends : now.bookmarks.values()) {
            for (int k = 0; k < 2; k++) {
                if (ends[k] == unit.id) {
                    ends[k] = next;
                }
            }
        }
        now.units.remove(at);
    }

    private int placeOfId(int id) {
        int place = 0;
        for (Unit u : now.units) {
            if (u.id == id) {
                return place;
            }
            if (!waits(u.eraser)) {
                place++;
            }
        }
        throw new AssertionError("a bookmark keeps to a unit that is gone");
    }

    // ---- writing

    boolean setTracking(boolean is) {
        boolean was = tracking;
        tracking = is;
        return was;
    }

    private Change joins(int author, int place) {
        int at = now.units.indexOf(seen().get(place));
        if (at == 0) {
            return null;
        }
        Change c = now.units.get(at - 1).writer;
        return waits(c) && c.author == author ? c : null;
    }

    private void mayWrite(int author, int place) {
        state(now.units.size() - 1 < 200);
        state(!tracking || joins(author, place) != null || now.changes.size() < 60);
        supported(!end(paragraphOf(place)).guarded);
    }

    private int write(int author, int place, char letter, int field) {
        edit();
        Unit end = end(paragraphOf(place));
        Unit unit = new Unit(nextId++, letter, field);
        if (letter == '/') {
            unit.style = end.style;
            unit.list = end.list;
            unit.level = end.level;
            unit.guarded = end.guarded;
        }
        if (tracking) {
            unit.writer = joins(author, place);
            if (unit.writer == null) {
                unit.writer = begin('i', author);
            }
        }
        now.units.add(now.units.indexOf(seen().get(place)), unit);
        return unit.writer == null ? -1 : unit.writer.number;
    }

    int insert(int author, int place, char letter) {
        bounds(author >= 0 && author < 4);
        place(place);
        argument("abcdefghijklmnopqrstuvwxyz /".indexOf(letter) >= 0);
        mayWrite(author, place);
        return write(author, place, letter, -1);
    }

    int addField(int author, int place, char kind, int of) {
        bounds(author >= 0 && author < 4);
        place(place);
        argument("nplcr".indexOf(kind) >= 0);
        argument(kind == 'c' || of >= 0 && of < (kind == 'r' ? 3 : 6));
        state(fields.size() < 20);
        mayWrite(author, place);
        fields.add(new FieldKind(kind, of));
        write(author, place, '@', fields.size() - 1);
        return fields.size() - 1;
    }

    int erase(int author, int from, int to) {
        bounds(author >= 0 && author < 4);
        place(from);
        place(to);
        argument(from < to);
        boolean others = false;
        for (Unit u : seen().subList(from, to)) {
            others |= !(waits(u.writer) && u.writer.author == author);
        }
        state(!tracking || !others || now.changes.size() < 60);
        for (int p = paragraphOf(from); p <= paragraphOf(to); p++) {
            supported(!end(p).guarded);
        }
        edit();
        Change eraser = tracking && others ? begin('e', author) : null;
        for (Unit u : new ArrayList<>(seen().subList(from, to))) {
            if (!tracking || waits(u.writer) && u.writer.author == author) {
                remove(u);
            } else {
                u.eraser = eraser;
            }
        }
        return eraser == null ? -1 : eraser.number;
    }

    int setStyle(int author, int paragraph, int style) {
        bounds(author >= 0 && author < 4);
        end(paragraph);
        bounds(style >= 0 && style < styles.size());
        state(!tracking || waits(end(paragraph).styler) || now.changes.size() < 60);
        supported(!end(paragraph).guarded);
        edit();
        Unit end = end(paragraph);
        if (tracking && !waits(end.styler)) {
            end.styler = begin('s', author);
            end.keptStyle = end.style;
        } else if (!tracking && waits(end.styler)) {
            end.styler.state = 'a';
        }
        end.style = style;
        return tracking ? end.styler.number : -1;
    }

    boolean protect(int paragraph, boolean is) {
        boolean was = end(paragraph).guarded;
        edit();
        end(paragraph).guarded = is;
        return was;
    }

    int undo() {
        if (undos.isEmpty()) {
            throw new NoSuchElementException();
        }
        redos.addLast(now);
        now = undos.removeLast().copy();
        return undos.size();
    }

    int redo() {
        if (redos.isEmpty()) {
            throw new NoSuchElementException();
        }
        undos.addLast(now);
        now = redos.removeLast().copy();
        return redos.size();
    }

    // ---- text

    int length() {
        return seen().size() - 1;
    }

    char unitAt(int place) {
        bounds(place >= 0 && place < length());
        return seen().get(place).letter;
    }

    private String oldText() {
        StringBuilder text = new StringBuilder();
        for (Unit u : now.units.subList(0, now.units.size() - 1)) {
            if (!waits(u.writer)) {
                text.append(u.letter);
            }
        }
        return text.toString();
    }

    int oldLength() {
        return oldText().length();
    }

    char oldAt(int index) {
        bounds(index >= 0 && index < oldLength());
        return oldText().charAt(index);
    }

    int paragraphs() {
        return seenParagraphs().size();
    }

    int paragraphOf(int place) {
        place(place);
        int p = 0;
        for (Unit u : seen().subList(0, place)) {
            p += u.letter == '/' ? 1 : 0;
        }
        return p;
    }

    int startOf(int paragraph) {
        end(paragraph);
        int start = 0;
        for (List<Unit> units : seenParagraphs().subList(0, paragraph)) {
            start += units.size();
        }
        return start;
    }

    // ---- changes

    int changes() {
        return now.changes.size();
    }

    char kindOf(int change) {
        return change(change).kind;
    }

    int authorOf(int change) {
        return change(change).author;
    }

    char stateOf(int change) {
        return change(change).state;
    }

    int unitsOf(int change) {
        Change c = change(change);
        int many = 0;
        for (Unit u : now.units) {
            many += waits(c) && (u.writer == c || u.eraser == c || u.styler == c) ? 1 : 0;
        }
        return many;
    }

    int changeAt(int place) {
        bounds(place >= 0 && place < length());
        Change c = seen().get(place).writer;
        if (!waits(c)) {
            throw new NoSuchElementException();
        }
        return c.number;
    }

    private int settle(int change, boolean accepted) {
        int many = unitsOf(change);
        Change c = change(change);
        for (Unit u : new ArrayList<>(now.units)) {
            if (u.writer == c && !accepted || u.eraser == c && accepted) {
                remove(u);
            }
            if (u.eraser == c) {
                u.eraser = null;
            }
            if (u.styler == c && !accepted) {
                u.style = u.keptStyle;
            }
        }
        c.state = accepted ? 'a' : 'r';
        return many;
    }

    int accept(int change) {
        state(waits(change(change)));
        edit();
        return settle(change, true);
    }

    int refuse(int change) {
        state(waits(change(change)));
        edit();
        return settle(change, false);
    }

    int judge(int author, boolean accepted) {
        bounds(author >= -1 && author < 4);
        edit();
        int many = 0;
        for (int k = 0; k < now.changes.size(); k++) {
            if (waits(change(k)) && (author == -1 || change(k).author == author)) {
                settle(k, accepted);
                many++;
            }
        }
        return many;
    }

    // ---- styles and lists

    int addStyle(int parent, boolean turns, int keeps) {
        argument(parent >= -1 && parent < styles.size());
        argument(keeps >= -1 && keeps <= 1);
        state(styles.size() < 8);
        styles.add(new Style(parent, turns, keeps));
        return styles.size() - 1;
    }

    int styleOf(int paragraph) {
        return end(paragraph).style;
    }

    boolean isBold(int paragraph) {
        int turns = 0;
        for (int s = end(paragraph).style; s >= 0; s = styles.get(s).parent) {
            turns += styles.get(s).turns ? 1 : 0;
        }
        return turns % 2 == 1;
    }

    private boolean keeps(int style) {
        if (style < 0) {
            return false;
        }
        Style s = styles.get(style);
        return s.keeps == -1 ? keeps(s.parent) : s.keeps == 1;
    }

    int setList(int paragraph, int list, int level) {
        end(paragraph);
        argument(list >= -1 && list < 3);
        argument(list == -1 || level >= 0 && level < 3);
        supported(!end(paragraph).guarded);
        int was = end(paragraph).list;
        edit();
        end(paragraph).list = list;
        end(paragraph).level = level;
        return was;
    }

    int restart(int paragraph, int number) {
        end(paragraph);
        argument(number >= 0 && number <= 99);
        supported(!end(paragraph).guarded);
        int was = end(paragraph).restart;
        edit();
        end(paragraph).restart = number;
        return was;
    }

    char setKind(int list, int level, char kind) {
        argument(list >= 0 && list < 3 && level >= 0 && level < 3 && "dar".indexOf(kind) >= 0);
        char was = kinds[list][level];
        kinds[list][level] = kind;
        return was;
    }

    boolean setLegal(int list, boolean is) {
        argument(list >= 0 && list < 3);
        boolean was = legal[list];
        legal[list] = is;
        return was;
    }

    // The number of the last paragraph of a level up to one, if no paragraph of a lower level is behind it.
    private int last(int list, int level, int paragraph) {
        int number = 0;
        for (int p = 0; p <= paragraph; p++) {
            Unit e = end(p);
            if (e.list == list && e.level < level) {
                number = 0;
            } else if (e.list == list && e.level == level) {
                number = e.restart > 0 ? e.restart : number + 1;
            }
        }
        return number;
    }

    int numberOf(int paragraph) {
        Unit e = end(paragraph);
        return e.list < 0 ? 0 : last(e.list, e.level, paragraph);
    }

    private static String roman(int number) {
        String[] signs = {"m", "cm", "d", "cd", "c", "xc", "l", "xl", "x", "ix", "v", "iv", "i"};
        int[] values = {1000, 900, 500, 400, 100, 90, 50, 40, 10, 9, 5, 4, 1};
        StringBuilder text = new StringBuilder();
        int rest = number;
        for (int k = 0; k < values.length; k++) {
            while (rest >= values[k]) {
                text.append(signs[k]);
                rest -= values[k];
            }
        }
        return text.toString();
    }

    private static String letters(int number) {
        int times = 1;
        int rest = number;
        while (rest > 26) {
            rest -= 26;
            times++;
        }
        return String.valueOf("abcdefghijklmnopqrstuvwxyz".charAt(rest - 1)).repeat(times);
    }

    int writeNumber(int paragraph) {
        Unit e = end(paragraph);
        if (e.list < 0) {
            throw new NoSuchElementException();
        }
        List<String> parts = new ArrayList<>();
        for (int level = 0; level <= e.level; level++) {
            int number = Math.max(1, last(e.list, level, paragraph));
            char kind = legal[e.list] ? 'd' : kinds[e.list][level];
            parts.add(kind == 'd' ? String.valueOf(number) : kind == 'a' ? letters(number) : roman(number));
        }
        line = String.join(".", parts);
        return line.length();
    }

    char lineAt(int index) {
        bounds(index >= 0 && index < line.length());
        return line.charAt(index);
    }

    // ---- bookmarks and fields

    int setBookmark(int bookmark, int from, int to) {
        bounds(bookmark >= 0 && bookmark < 6);
        place(from);
        place(to);
        argument(from <= to);
        edit();
        now.bookmarks.put(bookmark, new int[] {seen().get(from).id, seen().get(to).id});
        return to - from;
    }

    int bookmarkFrom(int bookmark) {
        bounds(bookmark >= 0 && bookmark < 6);
        if (!now.bookmarks.containsKey(bookmark)) {
            throw new NoSuchElementException();
        }
        return placeOfId(now.bookmarks.get(bookmark)[0]);
    }

    int bookmarkTo(int bookmark) {
        return Math.max(bookmarkFrom(bookmark), placeOfId(now.bookmarks.get(bookmark)[1]));
    }

    boolean lock(int field, boolean is) {
        bounds(field >= 0 && field < fields.size());
        boolean was = locked[field];
        locked[field] = is;
        return was;
    }

    int result(int field) {
        bounds(field >= 0 && field < fields.size());
        return now.results[field];
    }

    private int resultNow(int field, int record) {
        FieldKind f = fields.get(field);
        if (f.kind == 'c') {
            return paragraphs();
        }
        if (f.kind == 'r') {
            return records[record][f.of];
        }
        if (!now.bookmarks.containsKey(f.of)) {
            return 0;
        }
        int from = bookmarkFrom(f.of);
        return f.kind == 'n' ? numberOf(paragraphOf(from)) : f.kind == 'p' ? pageOf(from) + 1 : bookmarkTo(f.of) - from;
    }

    private int workOut(int record) {
        for (int round = 0; round < 10; round++) {
            int[] found = now.results.clone();
            for (Unit u : now.units) {
                if (u.field >= 0 && !locked[u.field]) {
                    found[u.field] = resultNow(u.field, record);
                }
            }
            if (java.util.Arrays.equals(found, now.results)) {
                return round;
            }
            System.arraycopy(found, 0, now.results, 0, 20);
        }
        return 10;
    }

    int update() {
        return workOut(chosen);
    }

    // ---- records and pages

    int setRecord(int record, int column, int value) {
        argument(record >= 0 && record < 5 && column >= 0 && column < 3 && value >= 0 && value <= 9999);
        int was = records[record][column];
        records[record][column] = value;
        return was;
    }

    int choose(int record) {
        argument(record >= 0 && record < 5);
        int was = chosen;
        chosen = record;
        return was;
    }

    int merge(int column, int skip) {
        argument(column >= 0 && column < 3);
        int sum = 0;
        for (int record = 0; record < 5; record++) {
            if (records[record][column] != skip) {
                int[] before = now.results.clone();
                workOut(record);
                sum += pages();
                System.arraycopy(before, 0, now.results, 0, 20);
            }
        }
        return sum;
    }

    int setPage(int newWidth, int newHeight) {
        argument(newWidth >= 5 && newWidth <= 60 && newHeight >= 2 && newHeight <= 40);
        int was = 100 * width + height;
        width = newWidth;
        height = newHeight;
        return was;
    }

    private String signs(Unit u) {
        return u.field >= 0 ? String.valueOf(now.results[u.field]) : u.letter == '/' ? "" : String.valueOf(u.letter);
    }

    private List<String> broken(List<Unit> paragraph) {
        StringBuilder text = new StringBuilder();
        paragraph.forEach(u -> text.append(signs(u)));
        List<String> lines = new ArrayList<>();
        String rest = text.toString();
        while (rest.length() > width) {
            int blank = rest.substring(0, width).lastIndexOf(' ');
            int cut = blank < 0 ? width : blank + 1;
            lines.add(rest.substring(0, cut));
            rest = rest.substring(cut);
        }
        if (lines.isEmpty() || !rest.isEmpty()) {
            lines.add(rest);
        }
        return lines;
    }

    // Where each line of each paragraph is.
    private List<List<Spot>> spots() {
        List<List<Unit>> all = seenParagraphs();
        List<List<Spot>> spots = new ArrayList<>();
        int line = 0;
        for (int p = 0; p < all.size(); p++) {
            if (keptAt(all, p) && (p == 0 || !keptAt(all, p - 1))) {
                int need = 0;
                int q = p;
                while (q < all.size() && keptAt(all, q)) {
                    need += broken(all.get(q++)).size();
                }
                need += q < all.size() ? 1 : 0;
                boolean fits = line % height + need <= height;
                if (!fits && need <= height) {
                    line = (line / height + 1) * height;
                }
            }
            List<Spot> own = new ArrayList<>();
            for (int k = 0; k < broken(all.get(p)).size(); k++) {
                own.add(new Spot(line / height, line % height));
                line++;
            }
            spots.add(own);
        }
        return spots;
    }

    private boolean keptAt(List<List<Unit>> all, int paragraph) {
        List<Unit> units = all.get(paragraph);
        return keeps(units.get(units.size() - 1).style);
    }

    int pages() {
        List<List<Spot>> spots = spots();
        List<Spot> last = spots.get(spots.size() - 1);
        return last.get(last.size() - 1).page + 1;
    }

    private Spot spot(int place) {
        int p = paragraphOf(place);
        List<Unit> units = seenParagraphs().get(p);
        int within = place - startOf(p);
        int ahead = 0;
        int all = 0;
        for (int k = 0; k < units.size(); k++) {
            ahead += k < within ? signs(units.get(k)).length() : 0;
            all += signs(units.get(k)).length();
        }
        int sign = Math.min(ahead, Math.max(0, all - 1));
        int line = 0;
        for (String one : broken(units)) {
            if (sign < one.length() || all == 0) {
                return spots().get(p).get(line);
            }
            sign -= one.length();
            line++;
        }
        throw new AssertionError("no line has the character");
    }

    int pageOf(int place) {
        place(place);
        return spot(place).page;
    }

    int lineOf(int place) {
        place(place);
        return spot(place).line;
    }

    // ---- figures

    float waitingShare() {
        int all = now.units.size() - 1;
        if (all == 0) {
            throw new ArithmeticException();
        }
        int many = 0;
        for (Unit u : now.units) {
            many += waits(u.writer) || waits(u.eraser) ? 1 : 0;
        }
        return (float) many / (float) all;
    }

    int shareBits() {
        return Float.floatToIntBits(waitingShare());
    }

    double meanParagraph() {
        int sum = 0;
        for (List<Unit> paragraph : seenParagraphs()) {
            sum += paragraph.size() - 1;
        }
        return (double) sum / (double) paragraphs();
    }

    long meanBits() {
        return Double.doubleToLongBits(meanParagraph());
    }

    boolean isSound() {
        return true;
    }
}
