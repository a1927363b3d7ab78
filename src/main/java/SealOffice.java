import java.util.NoSuchElementException;

/** An office for documents, as ../shared/DOC.md promises it. */
public final class SealOffice {
    private static final int NONE = -1;
    private static final int AUTHORS = 4;
    private static final int MOST_UNITS = 200;
    private static final int MOST_CHANGES = 60;
    private static final int MOST_FIELDS = 20;
    private static final int MOST_STYLES = 8;
    private static final int MOST_EDITS = 6;
    private static final int MOST_ROUNDS = 10;
    private static final int BOOKMARKS = 6;
    private static final int LISTS = 3;
    private static final int LEVELS = 3;
    private static final int RECORDS = 5;
    private static final int COLUMNS = 3;
    private static final int MOST_VALUE = 9999;
    private static final int MOST_RESTART = 99;

    private static final char END = '/';
    private static final char FIELD_SIGN = '@';
    private static final char WRITING = 'i';
    private static final char ERASING = 'e';
    private static final char STYLING = 's';
    private static final char WAITING = 'w';
    private static final char ACCEPTED = 'a';
    private static final char REFUSED = 'r';

    private boolean isTracked = true;
    private final Past past = new Past();
    private final Paper trial = new Paper();
    private final Styles styles = new Styles();
    private final Numbers numbers = new Numbers();
    private final Fields fields = new Fields();
    private final Records records = new Records();
    private final Layout layout = new Layout();
    private final int[] keptResults = new int[MOST_FIELDS];

    public SealOffice() {
    }

    // ---- writing

    public boolean setTracking(boolean isTracking) {
        boolean before = isTracked;
        isTracked = isTracking;
        return before;
    }

    public int insert(int author, int place, char letter) throws IndexOutOfBoundsException, IllegalArgumentException, IllegalStateException, UnsupportedOperationException {
        checkAuthor(author);
        int index = indexOfPlace(place);
        if (!isLetter(letter)) {
            throw new IllegalArgumentException("no such letter");
        }
        checkWriting(author, index);
        return write(author, index, letter, NONE);
    }

    public int addField(int author, int place, char kind, int of) throws IndexOutOfBoundsException, IllegalArgumentException, IllegalStateException, UnsupportedOperationException {
        checkAuthor(author);
        int index = indexOfPlace(place);
        if (!isFieldKind(kind, of)) {
            throw new IllegalArgumentException("no such kind, bookmark or column");
        }
        if (fields.isFull()) {
            throw new IllegalStateException("there are 20 fields");
        }
        checkWriting(author, index);
        int field = fields.enroll(kind, of);
        write(author, index, FIELD_SIGN, field);
        return field;
    }

    public int erase(int author, int from, int to) throws IndexOutOfBoundsException, IllegalArgumentException, IllegalStateException, UnsupportedOperationException {
        checkAuthor(author);
        int first = indexOfPlace(from);
        int behind = indexOfPlace(to);
        if (from >= to) {
            throw new IllegalArgumentException("the part is empty");
        }
        Paper paper = past.now();
        if (isTracked && paper.log.isFull() && paper.hasOthers(author, first, behind)) {
            throw new IllegalStateException("there would be too many changes");
        }
        if (paper.row.isGuarded(first, behind)) {
            throw new UnsupportedOperationException("a paragraph is protected");
        }
        Paper edited = past.begin();
        if (isTracked) {
            return edited.strike(author, first, behind);
        }
        edited.row.dropSeen(first, behind);
        return NONE;
    }

    public int setStyle(int author, int paragraph, int style) throws IndexOutOfBoundsException, IllegalStateException, UnsupportedOperationException {
        checkAuthor(author);
        int end = endOfParagraph(paragraph);
        if (!styles.has(style)) {
            throw new IndexOutOfBoundsException("no such style");
        }
        Paper paper = past.now();
        if (isTracked && paper.log.isFull() && paper.row.fact(Row.STYLED, end) == NONE) {
            throw new IllegalStateException("there would be too many changes");
        }
        checkUnguarded(end);
        Paper edited = past.begin();
        if (isTracked) {
            return edited.restyle(author, end, style);
        }
        edited.restyleAtOnce(end, style);
        return NONE;
    }

    public boolean protect(int paragraph, boolean isProtected) throws IndexOutOfBoundsException {
        int end = endOfParagraph(paragraph);
        boolean before = past.now().row.fact(Row.GUARDED, end) == 1;
        past.begin().row.setFact(Row.GUARDED, end, isProtected ? 1 : 0);
        return before;
    }

    public int undo() throws NoSuchElementException {
        if (!past.canGoBack()) {
            throw new NoSuchElementException("there is no edit to undo");
        }
        return past.goBack();
    }

    public int redo() throws NoSuchElementException {
        if (!past.canGoOn()) {
            throw new NoSuchElementException("there is no edit to do again");
        }
        return past.goOn();
    }

    // ---- text

    public int length() {
        return past.now().row.seenUnits();
    }

    public char unitAt(int place) throws IndexOutOfBoundsException {
        return (char) past.now().row.fact(Row.LETTER, indexOfUnit(place));
    }

    public int oldLength() {
        return past.now().row.oldUnits();
    }

    public char oldAt(int index) throws IndexOutOfBoundsException {
        Row row = past.now().row;
        int old = row.indexOfOld(index);
        if (old == NONE) {
            throw new IndexOutOfBoundsException("no such unit");
        }
        return (char) row.fact(Row.LETTER, old);
    }

    public int paragraphs() {
        return past.now().row.seenParagraphs();
    }

    public int paragraphOf(int place) throws IndexOutOfBoundsException {
        return past.now().row.endsAhead(indexOfPlace(place));
    }

    public int startOf(int paragraph) throws IndexOutOfBoundsException {
        endOfParagraph(paragraph);
        return past.now().row.placeOfParagraph(paragraph);
    }

    // ---- changes

    public int changes() {
        return past.now().log.many();
    }

    public char kindOf(int change) throws IndexOutOfBoundsException {
        checkChange(change);
        return past.now().log.kind(change);
    }

    public int authorOf(int change) throws IndexOutOfBoundsException {
        checkChange(change);
        return past.now().log.author(change);
    }

    public char stateOf(int change) throws IndexOutOfBoundsException {
        checkChange(change);
        return past.now().log.state(change);
    }

    public int unitsOf(int change) throws IndexOutOfBoundsException {
        checkChange(change);
        return past.now().row.concerned(change);
    }

    public int changeAt(int place) throws IndexOutOfBoundsException, NoSuchElementException {
        int change = past.now().row.fact(Row.WRITTEN, indexOfUnit(place));
        if (change == NONE) {
            throw new NoSuchElementException("written by no change that waits");
        }
        return change;
    }

    public int accept(int change) throws IndexOutOfBoundsException, IllegalStateException {
        checkWaiting(change);
        return past.begin().settle(change, true);
    }

    public int refuse(int change) throws IndexOutOfBoundsException, IllegalStateException {
        checkWaiting(change);
        return past.begin().settle(change, false);
    }

    public int judge(int author, boolean isAccepted) throws IndexOutOfBoundsException {
        if (author != NONE) {
            checkAuthor(author);
        }
        return past.begin().settleAll(author, isAccepted);
    }

    // ---- styles and lists

    public int addStyle(int parent, boolean turns, int keeps) throws IllegalArgumentException, IllegalStateException {
        if (parent != NONE && !styles.has(parent)) {
            throw new IllegalArgumentException("no such style");
        }
        if (keeps < NONE || keeps > 1) {
            throw new IllegalArgumentException("the number is out of range");
        }
        if (styles.isFull()) {
            throw new IllegalStateException("there are 8 styles");
        }
        return styles.enroll(parent, turns, keeps);
    }

    public int styleOf(int paragraph) throws IndexOutOfBoundsException {
        return past.now().row.fact(Row.STYLE, endOfParagraph(paragraph));
    }

    public boolean isBold(int paragraph) throws IndexOutOfBoundsException {
        return styles.turnsBold(past.now().row.fact(Row.STYLE, endOfParagraph(paragraph)));
    }

    public int setList(int paragraph, int list, int level) throws IndexOutOfBoundsException, IllegalArgumentException, UnsupportedOperationException {
        int end = endOfParagraph(paragraph);
        if (list != NONE && !(isWithin(list, LISTS) && isWithin(level, LEVELS))) {
            throw new IllegalArgumentException("no such list or level");
        }
        checkUnguarded(end);
        int before = past.now().row.fact(Row.LIST, end);
        Row row = past.begin().row;
        row.setFact(Row.LIST, end, list);
        row.setFact(Row.LEVEL, end, list == NONE ? 0 : level);
        return before;
    }

    public int restart(int paragraph, int number) throws IndexOutOfBoundsException, IllegalArgumentException, UnsupportedOperationException {
        int end = endOfParagraph(paragraph);
        if (number < 0 || number > MOST_RESTART) {
            throw new IllegalArgumentException("the number is out of range");
        }
        checkUnguarded(end);
        int before = past.now().row.fact(Row.RESTART, end);
        past.begin().row.setFact(Row.RESTART, end, number);
        return before;
    }

    public char setKind(int list, int level, char kind) throws IllegalArgumentException {
        if (!isWithin(list, LISTS) || !isWithin(level, LEVELS)) {
            throw new IllegalArgumentException("no such list or level");
        }
        if (kind != 'd' && kind != 'a' && kind != 'r') {
            throw new IllegalArgumentException("no such kind");
        }
        return numbers.swapKind(list, level, kind);
    }

    public boolean setLegal(int list, boolean isLegal) throws IllegalArgumentException {
        if (!isWithin(list, LISTS)) {
            throw new IllegalArgumentException("no such list");
        }
        return numbers.swapLegal(list, isLegal);
    }

    public int numberOf(int paragraph) throws IndexOutOfBoundsException {
        return numbers.ownNumber(past.now().row, endOfParagraph(paragraph));
    }

    public int writeNumber(int paragraph) throws IndexOutOfBoundsException, NoSuchElementException {
        int end = endOfParagraph(paragraph);
        Row row = past.now().row;
        if (row.fact(Row.LIST, end) == NONE) {
            throw new NoSuchElementException("the paragraph is in no list");
        }
        return numbers.writeLine(row, end);
    }

    public char lineAt(int index) throws IndexOutOfBoundsException {
        if (!isWithin(index, numbers.lineLength())) {
            throw new IndexOutOfBoundsException("no such character");
        }
        return numbers.lineSign(index);
    }

    // ---- bookmarks and fields

    public int setBookmark(int bookmark, int from, int to) throws IndexOutOfBoundsException, IllegalArgumentException {
        checkBookmark(bookmark);
        int first = indexOfPlace(from);
        int behind = indexOfPlace(to);
        if (to < from) {
            throw new IllegalArgumentException("it ends ahead of where it begins");
        }
        past.begin().row.putBookmark(bookmark, first, behind);
        return to - from;
    }

    public int bookmarkFrom(int bookmark) throws IndexOutOfBoundsException, NoSuchElementException {
        checkSetBookmark(bookmark);
        return past.now().row.bookmarkBegin(bookmark);
    }

    public int bookmarkTo(int bookmark) throws IndexOutOfBoundsException, NoSuchElementException {
        checkSetBookmark(bookmark);
        return past.now().row.bookmarkEnd(bookmark);
    }

    public boolean lock(int field, boolean isLocked) throws IndexOutOfBoundsException {
        checkField(field);
        return fields.swapLocked(field, isLocked);
    }

    public int result(int field) throws IndexOutOfBoundsException {
        checkField(field);
        return past.now().found(field);
    }

    public int update() {
        return workOut(records.chosenOne());
    }

    // ---- records and pages

    public int setRecord(int record, int column, int value) throws IllegalArgumentException {
        if (!isWithin(record, RECORDS) || !isWithin(column, COLUMNS) || value < 0 || value > MOST_VALUE) {
            throw new IllegalArgumentException("a number is out of range");
        }
        return records.swap(record, column, value);
    }

    public int choose(int record) throws IllegalArgumentException {
        if (!isWithin(record, RECORDS)) {
            throw new IllegalArgumentException("no such record");
        }
        return records.swapChosen(record);
    }

    public int merge(int column, int skip) throws IllegalArgumentException {
        if (!isWithin(column, COLUMNS)) {
            throw new IllegalArgumentException("no such column");
        }
        int[] results = past.now().results;
        int sum = 0;
        for (int record = 0; record < RECORDS; record++) {
            if (records.value(record, column) != skip) {
                System.arraycopy(results, 0, keptResults, 0, MOST_FIELDS);
                workOut(record);
                sum += pages();
                System.arraycopy(keptResults, 0, results, 0, MOST_FIELDS);
            }
        }
        return sum;
    }

    public int setPage(int width, int lines) throws IllegalArgumentException {
        if (width < 5 || width > 60 || lines < 2 || lines > 40) {
            throw new IllegalArgumentException("a number is out of range");
        }
        return layout.swapSize(width, lines);
    }

    public int pages() {
        arrange();
        return layout.manyPages();
    }

    public int pageOf(int place) throws IndexOutOfBoundsException {
        indexOfPlace(place);
        arrange();
        return layout.pageAt(place);
    }

    public int lineOf(int place) throws IndexOutOfBoundsException {
        indexOfPlace(place);
        arrange();
        return layout.lineAtPlace(place);
    }

    // ---- figures

    public float waitingShare() throws ArithmeticException {
        Row row = past.now().row;
        int all = row.allUnits();
        if (all <= 0) {
            throw new ArithmeticException("there are no units");
        }
        return (float) row.waitingUnits() / (float) all;
    }

    public int shareBits() throws ArithmeticException {
        return bitsOfShare(waitingShare());
    }

    public double meanParagraph() {
        Row row = past.now().row;
        int ends = row.seenParagraphs();
        if (ends <= 0) {
            return 0.0;
        }
        return (double) (row.seenUnits() - (ends - 1)) / (double) ends;
    }

    public long meanBits() {
        return bitsOfMean(meanParagraph());
    }

    public boolean isSound() {
        return isJudgedSoundly(false, true) && isJudgedSoundly(false, false)
                && isJudgedSoundly(true, true) && isJudgedSoundly(true, false)
                && past.now().log.isAuthored() && past.now().row.areBookmarksOrdered()
                && isEachPlaceOnPage();
    }

    // ---- what the calls share

    private static boolean isWithin(int number, int many) {
        return number >= 0 && number < many;
    }

    // Indexes that are worked out are used through these two alone, so that none can be out of bounds.
    private static int cell(int[] row, int index) {
        return index >= 0 && index < row.length ? row[index] : NONE;
    }

    private static void setCell(int[] row, int index, int value) {
        if (index >= 0 && index < row.length) {
            row[index] = value;
        }
    }

    private static boolean isLetter(char letter) {
        return letter >= 'a' && letter <= 'z' || letter == ' ' || letter == END;
    }

    private static boolean isFieldKind(char kind, int of) {
        switch (kind) {
            case 'n':
            case 'p':
            case 'l':
                return isWithin(of, BOOKMARKS);
            case 'r':
                return isWithin(of, COLUMNS);
            default:
                return kind == 'c';
        }
    }

    private static void checkAuthor(int author) {
        if (!isWithin(author, AUTHORS)) {
            throw new IndexOutOfBoundsException("no such author");
        }
    }

    private static void checkBookmark(int bookmark) {
        if (!isWithin(bookmark, BOOKMARKS)) {
            throw new IndexOutOfBoundsException("no such bookmark");
        }
    }

    private void checkSetBookmark(int bookmark) {
        checkBookmark(bookmark);
        if (!past.now().row.hasBookmark(bookmark)) {
            throw new NoSuchElementException("it was never set");
        }
    }

    private void checkField(int field) {
        if (!fields.has(field)) {
            throw new IndexOutOfBoundsException("no such field");
        }
    }

    private void checkChange(int change) {
        if (!isWithin(change, past.now().log.many())) {
            throw new IndexOutOfBoundsException("no such change");
        }
    }

    private void checkWaiting(int change) {
        checkChange(change);
        if (past.now().log.state(change) != WAITING) {
            throw new IllegalStateException("it does not wait");
        }
    }

    private void checkUnguarded(int end) {
        if (past.now().row.fact(Row.GUARDED, end) == 1) {
            throw new UnsupportedOperationException("the paragraph is protected");
        }
    }

    private void checkWriting(int author, int index) {
        Paper paper = past.now();
        if (paper.row.allUnits() >= MOST_UNITS) {
            throw new IllegalStateException("there are 200 units");
        }
        if (isTracked && paper.log.isFull() && paper.changeAhead(author, index) == NONE) {
            throw new IllegalStateException("there would be too many changes");
        }
        checkUnguarded(paper.row.endFrom(index));
    }

    private int indexOfPlace(int place) {
        int index = past.now().row.indexOf(place);
        if (index == NONE) {
            throw new IndexOutOfBoundsException("no such place");
        }
        return index;
    }

    private int indexOfUnit(int place) {
        int index = indexOfPlace(place);
        if (index >= past.now().row.allUnits()) {
            throw new IndexOutOfBoundsException("no such unit");
        }
        return index;
    }

    private int endOfParagraph(int paragraph) {
        int end = past.now().row.indexOfEnd(paragraph);
        if (end == NONE) {
            throw new IndexOutOfBoundsException("no such paragraph");
        }
        return end;
    }

    private int write(int author, int index, char letter, int field) {
        Paper paper = past.begin();
        int change = NONE;
        if (isTracked) {
            change = paper.changeAhead(author, index);
            if (change == NONE) {
                change = paper.log.enroll(WRITING, author);
            }
        }
        paper.row.putUnit(index, letter, field, change);
        return change;
    }

    private void arrange() {
        Paper paper = past.now();
        layout.layOut(paper.row, paper.results, styles);
    }

    private int workOut(int record) {
        int rounds = 0;
        for (int round = 0; round < MOST_ROUNDS; round++) {
            if (!workRound(record)) {
                break;
            }
            rounds++;
        }
        return rounds;
    }

    // The pages are those of the results before: they are laid out once, ahead of all fields.
    private boolean workRound(int record) {
        Paper paper = past.now();
        layout.layOut(paper.row, paper.results, styles);
        boolean isChanged = false;
        for (int index = 0; index < paper.row.allUnits(); index++) {
            int field = paper.row.fact(Row.FIELD, index);
            if (field != NONE && !fields.isHeld(field)) {
                int found = resultNow(paper.row, field, record);
                isChanged = isChanged || found != paper.found(field);
                setCell(paper.results, field, found);
            }
        }
        return isChanged;
    }

    private int resultNow(Row row, int field, int record) {
        char kind = fields.kind(field);
        int of = fields.of(field);
        if (kind == 'c') {
            return row.seenParagraphs();
        }
        if (kind == 'r') {
            return records.value(record, of);
        }
        if (!row.hasBookmark(of)) {
            return 0;
        }
        int place = row.bookmarkBegin(of);
        switch (kind) {
            case 'n':
                return numbers.ownNumber(row, row.endFrom(row.indexOf(place)));
            case 'p':
                return layout.pageAt(place) + 1;
            default:
                return row.bookmarkEnd(of) - place;
        }
    }

    private static int bitsOfShare(float share) {
        if (share <= 0f) {
            return 0;
        }
        float rest = share;
        int exponent = 127;
        for (int step = 0; step < 126 && rest < 1f; step++) {
            rest = rest * 2f;
            exponent--;
        }
        return (exponent << 23) + (int) ((rest - 1f) * 8388608f);
    }

    private static long bitsOfMean(double mean) {
        if (mean <= 0.0) {
            return 0L;
        }
        double rest = mean;
        long exponent = 1023L;
        for (int step = 0; step < 1000 && rest < 1.0; step++) {
            rest = rest * 2.0;
            exponent--;
        }
        for (int step = 0; step < 1000 && rest >= 2.0; step++) {
            rest = rest / 2.0;
            exponent++;
        }
        return (exponent << 52) + (long) ((rest - 1.0) * 4503599627370496.0);
    }

    private boolean isJudgedSoundly(boolean isAccepted, boolean isRising) {
        Paper paper = past.now();
        trial.takeFrom(paper);
        int many = trial.log.many();
        for (int step = 0; step < many; step++) {
            int change = isRising ? step : many - 1 - step;
            if (trial.log.state(change) == WAITING) {
                trial.settle(change, isAccepted);
            }
        }
        return trial.row.isTextOf(paper.row, !isAccepted);
    }

    private boolean isEachPlaceOnPage() {
        arrange();
        int last = past.now().row.seenUnits();
        for (int place = 0; place <= last; place++) {
            if (!isWithin(layout.pageAt(place), layout.manyPages())) {
                return false;
            }
        }
        return true;
    }

    /** All units in a row, the last end behind them, and the bookmarks that keep to them. */
    private static final class Row {
        private static final int LETTER = 0;
        private static final int FIELD = 1;
        // The change that waits and has written the unit, erased it, or set the style of its paragraph.
        private static final int WRITTEN = 2;
        private static final int ERASED = 3;
        private static final int STYLED = 4;
        private static final int STYLE = 5;
        private static final int KEPT_STYLE = 6;
        private static final int LIST = 7;
        private static final int LEVEL = 8;
        private static final int RESTART = 9;
        private static final int GUARDED = 10;
        private static final int FACTS = 11;
        private static final int SPOTS = MOST_UNITS + 1;

        private final int[] facts = new int[FACTS * SPOTS];
        private final int[] begins = new int[BOOKMARKS];
        private final int[] stops = new int[BOOKMARKS];
        private int units = 0;

        Row() {
            for (int bookmark = 0; bookmark < BOOKMARKS; bookmark++) {
                begins[bookmark] = NONE;
                stops[bookmark] = NONE;
            }
            facts[LETTER * SPOTS] = END;
            facts[FIELD * SPOTS] = NONE;
            facts[WRITTEN * SPOTS] = NONE;
            facts[ERASED * SPOTS] = NONE;
            facts[STYLED * SPOTS] = NONE;
            facts[LIST * SPOTS] = NONE;
        }

        void takeRow(Row other) {
            System.arraycopy(other.facts, 0, facts, 0, FACTS * SPOTS);
            System.arraycopy(other.begins, 0, begins, 0, BOOKMARKS);
            System.arraycopy(other.stops, 0, stops, 0, BOOKMARKS);
            units = other.units;
        }

        int fact(int which, int index) {
            int spot = which * SPOTS + index;
            return index >= 0 && index < SPOTS && spot >= 0 && spot < facts.length ? facts[spot] : NONE;
        }

        void setFact(int which, int index, int value) {
            int spot = which * SPOTS + index;
            if (index >= 0 && index < SPOTS && spot >= 0 && spot < facts.length) {
                facts[spot] = value;
            }
        }

        int allUnits() {
            return units;
        }

        boolean isSeen(int index) {
            return index >= 0 && index <= units && fact(ERASED, index) == NONE;
        }

        boolean isOld(int index) {
            return index >= 0 && index < units && fact(WRITTEN, index) == NONE;
        }

        boolean isSeenEnd(int index) {
            return index >= 0 && index <= units && fact(ERASED, index) == NONE && fact(LETTER, index) == END;
        }

        int indexOf(int place) {
            int ahead = 0;
            for (int index = 0; index <= units; index++) {
                if (isSeen(index)) {
                    if (ahead == place) {
                        return index;
                    }
                    ahead++;
                }
            }
            return NONE;
        }

        int indexOfOld(int place) {
            int ahead = 0;
            for (int index = 0; index < units; index++) {
                if (isOld(index)) {
                    if (ahead == place) {
                        return index;
                    }
                    ahead++;
                }
            }
            return NONE;
        }

        int indexOfEnd(int paragraph) {
            int ahead = 0;
            for (int index = 0; index <= units; index++) {
                if (isSeenEnd(index)) {
                    if (ahead == paragraph) {
                        return index;
                    }
                    ahead++;
                }
            }
            return NONE;
        }

        int endFrom(int index) {
            for (int end = index < 0 ? 0 : index; end < units; end++) {
                if (isSeenEnd(end)) {
                    return end;
                }
            }
            return units;
        }

        int placeOf(int index) {
            int ahead = 0;
            for (int unit = 0; unit < index && unit < units; unit++) {
                if (fact(ERASED, unit) == NONE) {
                    ahead++;
                }
            }
            return ahead;
        }

        int endsAhead(int index) {
            int ahead = 0;
            for (int unit = 0; unit < index && unit < units; unit++) {
                if (isSeenEnd(unit)) {
                    ahead++;
                }
            }
            return ahead;
        }

        int placeOfParagraph(int paragraph) {
            return paragraph <= 0 ? 0 : placeOf(indexOfEnd(paragraph - 1)) + 1;
        }

        int seenUnits() {
            return placeOf(units);
        }

        int seenParagraphs() {
            return endsAhead(units) + 1;
        }

        int oldUnits() {
            int many = 0;
            for (int index = 0; index < units; index++) {
                if (isOld(index)) {
                    many++;
                }
            }
            return many;
        }

        int waitingUnits() {
            int many = 0;
            for (int index = 0; index < units; index++) {
                if (fact(WRITTEN, index) != NONE || fact(ERASED, index) != NONE) {
                    many++;
                }
            }
            return many;
        }

        int concerned(int change) {
            int many = 0;
            for (int index = 0; index <= units; index++) {
                if (fact(WRITTEN, index) == change || fact(ERASED, index) == change || fact(STYLED, index) == change) {
                    many++;
                }
            }
            return many;
        }

        // Whether a paragraph from that of the one index to that of the other is protected.
        boolean isGuarded(int first, int last) {
            for (int index = first; index <= units; index++) {
                if (isSeenEnd(index)) {
                    if (fact(GUARDED, index) == 1) {
                        return true;
                    }
                    if (index >= last) {
                        return false;
                    }
                }
            }
            return false;
        }

        void putUnit(int index, char letter, int field, int change) {
            if (units >= MOST_UNITS || index < 0 || index > units) {
                return;
            }
            int end = endFrom(index) + 1;
            makeRoom(index);
            setFact(LETTER, index, letter);
            setFact(FIELD, index, field);
            setFact(WRITTEN, index, change);
            setFact(ERASED, index, NONE);
            setFact(STYLED, index, NONE);
            setFact(KEPT_STYLE, index, 0);
            setFact(RESTART, index, 0);
            setFact(STYLE, index, fact(STYLE, end));
            setFact(LIST, index, fact(LIST, end));
            setFact(LEVEL, index, fact(LEVEL, end));
            setFact(GUARDED, index, fact(GUARDED, end));
        }

        private void makeRoom(int index) {
            for (int which = 0; which < FACTS; which++) {
                int from = which * SPOTS + index;
                System.arraycopy(facts, from, facts, from + 1, units - index + 1);
            }
            units++;
            for (int bookmark = 0; bookmark < BOOKMARKS; bookmark++) {
                begins[bookmark] += begins[bookmark] >= index ? 1 : 0;
                stops[bookmark] += stops[bookmark] >= index ? 1 : 0;
            }
        }

        // A bookmark that keeps to the unit is left at its index, where the next one comes.
        void drop(int index) {
            if (index < 0 || index >= units) {
                return;
            }
            for (int which = 0; which < FACTS; which++) {
                int to = which * SPOTS + index;
                System.arraycopy(facts, to + 1, facts, to, units - index);
            }
            units--;
            for (int bookmark = 0; bookmark < BOOKMARKS; bookmark++) {
                begins[bookmark] -= begins[bookmark] > index ? 1 : 0;
                stops[bookmark] -= stops[bookmark] > index ? 1 : 0;
            }
        }

        void dropSeen(int first, int behind) {
            for (int index = behind - 1; index >= first && index >= 0; index--) {
                if (isSeen(index)) {
                    drop(index);
                }
            }
        }

        void dropAll(int which, int change) {
            for (int index = units - 1; index >= 0; index--) {
                if (fact(which, index) == change) {
                    drop(index);
                }
            }
        }

        void releaseAll(int which, int change) {
            for (int index = 0; index < units; index++) {
                if (fact(which, index) == change) {
                    setFact(which, index, NONE);
                }
            }
        }

        void settleStyle(int change, boolean isAccepted) {
            for (int index = 0; index <= units; index++) {
                if (fact(STYLED, index) == change) {
                    setFact(STYLED, index, NONE);
                    if (!isAccepted) {
                        setFact(STYLE, index, fact(KEPT_STYLE, index));
                    }
                }
            }
        }

        void putBookmark(int bookmark, int first, int behind) {
            setCell(begins, bookmark, first);
            setCell(stops, bookmark, behind);
        }

        boolean hasBookmark(int bookmark) {
            return cell(begins, bookmark) != NONE;
        }

        int bookmarkBegin(int bookmark) {
            return placeOf(cell(begins, bookmark));
        }

        int bookmarkEnd(int bookmark) {
            int begin = bookmarkBegin(bookmark);
            int end = placeOf(cell(stops, bookmark));
            return end < begin ? begin : end;
        }

        boolean areBookmarksOrdered() {
            for (int bookmark = 0; bookmark < BOOKMARKS; bookmark++) {
                if (hasBookmark(bookmark) && bookmarkEnd(bookmark) < bookmarkBegin(bookmark)) {
                    return false;
                }
            }
            return true;
        }

        // Whether the units here are those of the old text there, or those that are seen there.
        boolean isTextOf(Row there, boolean isOldText) {
            int at = 0;
            for (int index = 0; index < there.units; index++) {
                if (isOldText ? there.isOld(index) : there.isSeen(index)) {
                    if (at >= units || fact(LETTER, at) != there.fact(LETTER, index)) {
                        return false;
                    }
                    at++;
                }
            }
            return at == units;
        }
    }

    /** The changes, with their kinds, authors and states. */
    private static final class Log {
        private final int[] kinds = new int[MOST_CHANGES];
        private final int[] authors = new int[MOST_CHANGES];
        private final int[] states = new int[MOST_CHANGES];
        private int many = 0;

        void takeLog(Log other) {
            System.arraycopy(other.kinds, 0, kinds, 0, MOST_CHANGES);
            System.arraycopy(other.authors, 0, authors, 0, MOST_CHANGES);
            System.arraycopy(other.states, 0, states, 0, MOST_CHANGES);
            many = other.many;
        }

        int many() {
            return many;
        }

        boolean isFull() {
            return many >= MOST_CHANGES;
        }

        int enroll(char kind, int author) {
            if (isFull()) {
                return NONE;
            }
            setCell(kinds, many, kind);
            setCell(authors, many, author);
            setCell(states, many, WAITING);
            many++;
            return many - 1;
        }

        char kind(int change) {
            return (char) cell(kinds, change);
        }

        int author(int change) {
            return cell(authors, change);
        }

        char state(int change) {
            return (char) cell(states, change);
        }

        void setState(int change, char state) {
            setCell(states, change, state);
        }

        boolean isWaitingOf(int change, int author) {
            return isWithin(change, many) && state(change) == WAITING && author(change) == author;
        }

        boolean isAuthored() {
            for (int change = 0; change < many; change++) {
                if (state(change) == WAITING && !isWithin(author(change), AUTHORS)) {
                    return false;
                }
            }
            return true;
        }
    }

    /** All that undoing gives back. */
    private static final class Paper {
        private final Row row = new Row();
        private final Log log = new Log();
        private final int[] results = new int[MOST_FIELDS];

        void takeFrom(Paper other) {
            row.takeRow(other.row);
            log.takeLog(other.log);
            System.arraycopy(other.results, 0, results, 0, MOST_FIELDS);
        }

        int found(int field) {
            return cell(results, field);
        }

        // The change to which a unit of the author belongs that is written at the index, if it needs no new one.
        int changeAhead(int author, int index) {
            int change = row.fact(Row.WRITTEN, index - 1);
            return log.isWaitingOf(change, author) ? change : NONE;
        }

        private boolean isOwn(int author, int index) {
            return log.isWaitingOf(row.fact(Row.WRITTEN, index), author);
        }

        boolean hasOthers(int author, int first, int behind) {
            for (int index = first; index < behind; index++) {
                if (row.isSeen(index) && !isOwn(author, index)) {
                    return true;
                }
            }
            return false;
        }

        int strike(int author, int first, int behind) {
            int change = hasOthers(author, first, behind) ? log.enroll(ERASING, author) : NONE;
            for (int index = behind - 1; index >= first && index >= 0; index--) {
                if (row.isSeen(index)) {
                    if (isOwn(author, index)) {
                        row.drop(index);
                    } else {
                        row.setFact(Row.ERASED, index, change);
                    }
                }
            }
            return change;
        }

        int restyle(int author, int end, int style) {
            int change = row.fact(Row.STYLED, end);
            if (change == NONE) {
                change = log.enroll(STYLING, author);
                row.setFact(Row.STYLED, end, change);
                row.setFact(Row.KEPT_STYLE, end, row.fact(Row.STYLE, end));
            }
            row.setFact(Row.STYLE, end, style);
            return change;
        }

        void restyleAtOnce(int end, int style) {
            int change = row.fact(Row.STYLED, end);
            if (change != NONE) {
                settle(change, true);
            }
            row.setFact(Row.STYLE, end, style);
        }

        int settle(int change, boolean isAccepted) {
            int concerned = row.concerned(change);
            switch (log.kind(change)) {
                case WRITING:
                    settleUnits(Row.WRITTEN, change, isAccepted);
                    break;
                case ERASING:
                    settleUnits(Row.ERASED, change, !isAccepted);
                    break;
                default:
                    row.settleStyle(change, isAccepted);
                    break;
            }
            log.setState(change, isAccepted ? ACCEPTED : REFUSED);
            return concerned;
        }

        private void settleUnits(int which, int change, boolean isKept) {
            if (isKept) {
                row.releaseAll(which, change);
            } else {
                row.dropAll(which, change);
            }
        }

        int settleAll(int author, boolean isAccepted) {
            int judged = 0;
            for (int change = 0; change < log.many(); change++) {
                if (log.state(change) == WAITING && (author == NONE || log.author(change) == author)) {
                    settle(change, isAccepted);
                    judged++;
                }
            }
            return judged;
        }
    }

    /** The paper as it is now, those ahead of it that can be had again, and those that were undone. */
    private static final class Past {
        private final Paper[] papers = new Paper[MOST_EDITS + 1];
        private int done = 0;
        private int undone = 0;

        Past() {
            for (int slot = 0; slot <= MOST_EDITS; slot++) {
                papers[slot] = new Paper();
            }
        }

        Paper now() {
            return papers[isWithin(done, papers.length) ? done : 0];
        }

        // Leaves the paper as it is, to be had again, and answers a copy of it to be edited.
        Paper begin() {
            Paper before = now();
            if (done >= MOST_EDITS) {
                forgetFirst();
            }
            done++;
            undone = 0;
            Paper edited = now();
            edited.takeFrom(before);
            return edited;
        }

        private void forgetFirst() {
            Paper first = papers[0];
            for (int slot = 0; slot < MOST_EDITS; slot++) {
                papers[slot] = papers[slot + 1];
            }
            papers[MOST_EDITS] = first;
            done--;
        }

        boolean canGoBack() {
            return done > 0;
        }

        boolean canGoOn() {
            return undone > 0;
        }

        int goBack() {
            done--;
            undone++;
            return done;
        }

        int goOn() {
            done++;
            undone--;
            return undone;
        }
    }

    /** The styles, each based on an earlier one or on none. */
    private static final class Styles {
        private final int[] parents = new int[MOST_STYLES];
        private final int[] turns = new int[MOST_STYLES];
        private final int[] keeps = new int[MOST_STYLES];
        private int many = 1;

        Styles() {
            parents[0] = NONE;
        }

        boolean has(int style) {
            return isWithin(style, many);
        }

        boolean isFull() {
            return many >= MOST_STYLES;
        }

        int enroll(int parent, boolean isTurning, int keep) {
            setCell(parents, many, parent);
            setCell(turns, many, isTurning ? 1 : 0);
            setCell(keeps, many, keep);
            many++;
            return many - 1;
        }

        boolean turnsBold(int style) {
            boolean isTurned = false;
            int at = style;
            for (int step = 0; step < MOST_STYLES && at != NONE; step++) {
                if (cell(turns, at) == 1) {
                    isTurned = !isTurned;
                }
                at = cell(parents, at);
            }
            return isTurned;
        }

        boolean keepsWithNext(int style) {
            int at = style;
            for (int step = 0; step < MOST_STYLES && at != NONE; step++) {
                if (cell(keeps, at) != NONE) {
                    return cell(keeps, at) == 1;
                }
                at = cell(parents, at);
            }
            return false;
        }
    }

    /** How the lists are written, and the line to which a number is written. */
    private static final class Numbers {
        private static final int MOST_SIGNS = 128;

        private final int[] kinds = new int[LISTS * LEVELS];
        private final boolean[] legal = new boolean[LISTS];
        private final int[] counts = new int[LEVELS];
        private final char[] line = new char[MOST_SIGNS];
        private int signs = 0;

        Numbers() {
            for (int at = 0; at < LISTS * LEVELS; at++) {
                kinds[at] = 'd';
            }
        }

        char swapKind(int list, int level, char kind) {
            char before = (char) cell(kinds, list * LEVELS + level);
            setCell(kinds, list * LEVELS + level, kind);
            return before;
        }

        boolean swapLegal(int list, boolean isLegal) {
            if (!isWithin(list, LISTS)) {
                return false;
            }
            boolean before = legal[list];
            legal[list] = isLegal;
            return before;
        }

        int lineLength() {
            return signs;
        }

        char lineSign(int index) {
            return isWithin(index, MOST_SIGNS) ? line[index] : ' ';
        }

        int ownNumber(Row row, int end) {
            if (row.fact(Row.LIST, end) == NONE) {
                return 0;
            }
            countTo(row, end);
            return cell(counts, row.fact(Row.LEVEL, end));
        }

        private void countTo(Row row, int end) {
            int list = row.fact(Row.LIST, end);
            for (int level = 0; level < LEVELS; level++) {
                counts[level] = 0;
            }
            for (int index = 0; index <= end; index++) {
                if (row.isSeenEnd(index) && row.fact(Row.LIST, index) == list) {
                    countOne(row.fact(Row.LEVEL, index), row.fact(Row.RESTART, index));
                }
            }
        }

        private void countOne(int level, int restart) {
            setCell(counts, level, restart > 0 ? restart : cell(counts, level) + 1);
            for (int higher = level + 1; higher < LEVELS; higher++) {
                setCell(counts, higher, 0);
            }
        }

        int writeLine(Row row, int end) {
            countTo(row, end);
            int list = row.fact(Row.LIST, end);
            int own = row.fact(Row.LEVEL, end);
            signs = 0;
            for (int level = 0; level <= own && level < LEVELS; level++) {
                if (level > 0) {
                    addSign('.');
                }
                addNumber(list, level, Math.max(1, counts[level]));
            }
            return signs;
        }

        private void addNumber(int list, int level, int number) {
            int kind = isWithin(list, LISTS) && legal[list] ? 'd' : cell(kinds, list * LEVELS + level);
            switch (kind) {
                case 'a':
                    addLetters(number);
                    break;
                case 'r':
                    addRoman(number);
                    break;
                default:
                    addDigits(number);
                    break;
            }
        }

        private void addSign(char sign) {
            if (isWithin(signs, MOST_SIGNS)) {
                line[signs] = sign;
                signs++;
            }
        }

        private void addDigits(int number) {
            int unit = 1;
            for (int step = 0; step < 8 && number / 10 >= unit; step++) {
                unit = unit * 10;
            }
            int rest = number;
            for (int step = 0; step < 9 && unit > 0; step++) {
                addSign((char) ('0' + rest / unit));
                rest = rest % unit;
                unit = unit / 10;
            }
        }

        private void addLetters(int number) {
            char letter = (char) ('a' + (number - 1) % 26);
            int times = (number - 1) / 26 + 1;
            for (int step = 0; step < times && step < MOST_SIGNS; step++) {
                addSign(letter);
            }
        }

        private void addRoman(int number) {
            int thousands = number / 1000;
            for (int step = 0; step < thousands && step < MOST_SIGNS; step++) {
                addSign('m');
            }
            addRomanDigit(number / 100 % 10, 'c', 'd', 'm');
            addRomanDigit(number / 10 % 10, 'x', 'l', 'c');
            addRomanDigit(number % 10, 'i', 'v', 'x');
        }

        private void addRomanDigit(int digit, char one, char five, char ten) {
            if (digit % 5 == 4) {
                addSign(one);
                addSign(digit == 4 ? five : ten);
                return;
            }
            if (digit >= 5) {
                addSign(five);
            }
            for (int step = 0; step < digit % 5; step++) {
                addSign(one);
            }
        }
    }

    /** What each field that was ever written shows; the results stand with the paper. */
    private static final class Fields {
        private final int[] kinds = new int[MOST_FIELDS];
        private final int[] subjects = new int[MOST_FIELDS];
        private final boolean[] held = new boolean[MOST_FIELDS];
        private int many = 0;

        boolean isFull() {
            return many >= MOST_FIELDS;
        }

        boolean has(int field) {
            return isWithin(field, many);
        }

        int enroll(char kind, int of) {
            setCell(kinds, many, kind);
            setCell(subjects, many, of);
            many++;
            return many - 1;
        }

        char kind(int field) {
            return (char) cell(kinds, field);
        }

        int of(int field) {
            return cell(subjects, field);
        }

        boolean isHeld(int field) {
            return isWithin(field, MOST_FIELDS) && held[field];
        }

        boolean swapLocked(int field, boolean isLocked) {
            boolean before = isHeld(field);
            if (isWithin(field, MOST_FIELDS)) {
                held[field] = isLocked;
            }
            return before;
        }
    }

    /** The records that are merged, and the chosen one. */
    private static final class Records {
        private final int[] values = new int[RECORDS * COLUMNS];
        private int chosen = 0;

        int value(int record, int column) {
            return cell(values, record * COLUMNS + column);
        }

        int swap(int record, int column, int value) {
            int before = value(record, column);
            setCell(values, record * COLUMNS + column, value);
            return before;
        }

        int chosenOne() {
            return chosen;
        }

        int swapChosen(int record) {
            int before = chosen;
            chosen = record;
            return before;
        }
    }

    /** The pages: what is seen, laid out by characters, then by lines, then by pages. */
    private static final class Layout {
        // 180 letters and 20 fields of 4 digits are 260 characters; 201 paragraphs may have a line more each.
        private static final int MOST_SIGNS = 512;
        private static final int MOST_LINES = 1024;
        private static final int SPOTS = MOST_UNITS + 2;

        private int width = 20;
        private int height = 8;
        private final boolean[] blanks = new boolean[MOST_SIGNS];
        private final int[] lineOfSign = new int[MOST_SIGNS];
        private final int[] signOfPlace = new int[SPOTS];
        private final int[] paragraphOfPlace = new int[SPOTS];
        private final int[] firstSign = new int[SPOTS];
        private final int[] firstLine = new int[SPOTS];
        private final boolean[] keeps = new boolean[SPOTS];
        private final int[] pageOfLine = new int[MOST_LINES];
        private final int[] rowOfLine = new int[MOST_LINES];
        private int signs = 0;
        private int ends = 0;
        private int lines = 0;
        private int page = 0;
        private int used = 0;

        int swapSize(int newWidth, int newHeight) {
            int before = 100 * width + height;
            width = newWidth;
            height = newHeight;
            return before;
        }

        void layOut(Row row, int[] results, Styles styles) {
            readSigns(row, results, styles);
            breakLines();
            fillPages();
        }

        int manyPages() {
            return page + 1;
        }

        int pageAt(int place) {
            return cell(pageOfLine, lineNumber(place));
        }

        int lineAtPlace(int place) {
            return cell(rowOfLine, lineNumber(place));
        }

        private int lineNumber(int place) {
            int paragraph = cell(paragraphOfPlace, place);
            int from = cell(firstSign, paragraph);
            int to = cell(firstSign, paragraph + 1);
            if (from == to) {
                return cell(firstLine, paragraph);
            }
            int sign = cell(signOfPlace, place);
            return cell(lineOfSign, sign < to ? sign : to - 1);
        }

        private void readSigns(Row row, int[] results, Styles styles) {
            signs = 0;
            ends = 0;
            int place = 0;
            setCell(firstSign, 0, 0);
            for (int index = 0; index <= row.allUnits(); index++) {
                if (row.isSeen(index)) {
                    setCell(signOfPlace, place, signs);
                    setCell(paragraphOfPlace, place, ends);
                    place++;
                    if (row.fact(Row.LETTER, index) == END) {
                        closeParagraph(styles.keepsWithNext(row.fact(Row.STYLE, index)));
                    } else {
                        addSigns(row, index, results);
                    }
                }
            }
        }

        private void closeParagraph(boolean isKept) {
            if (isWithin(ends, SPOTS)) {
                keeps[ends] = isKept;
            }
            ends++;
            setCell(firstSign, ends, signs);
        }

        private void addSigns(Row row, int index, int[] results) {
            int field = row.fact(Row.FIELD, index);
            if (field == NONE) {
                addSign(row.fact(Row.LETTER, index) == ' ');
                return;
            }
            addSign(false);
            int rest = cell(results, field) / 10;
            for (int step = 0; step < 10 && rest > 0; step++) {
                addSign(false);
                rest = rest / 10;
            }
        }

        private void addSign(boolean isBlank) {
            if (signs >= 0 && signs < MOST_SIGNS) {
                blanks[signs] = isBlank;
                signs++;
            }
        }

        private void breakLines() {
            lines = 0;
            for (int paragraph = 0; paragraph < ends; paragraph++) {
                setCell(firstLine, paragraph, lines);
                breakParagraph(cell(firstSign, paragraph), cell(firstSign, paragraph + 1));
            }
            setCell(firstLine, ends, lines);
        }

        private void breakParagraph(int from, int to) {
            int at = from;
            for (int line = 0; line < MOST_SIGNS; line++) {
                int behind = endOfLine(at, to);
                for (int sign = at; sign < behind; sign++) {
                    setCell(lineOfSign, sign, lines);
                }
                lines++;
                at = behind;
                if (at >= to) {
                    break;
                }
            }
        }

        private int endOfLine(int from, int to) {
            if (to - from <= width) {
                return to;
            }
            for (int sign = from + width - 1; sign >= from; sign--) {
                if (isWithin(sign, MOST_SIGNS) && blanks[sign]) {
                    return sign + 1;
                }
            }
            return from + width;
        }

        private void fillPages() {
            page = 0;
            used = 0;
            for (int paragraph = 0; paragraph < ends; paragraph++) {
                if (keepsAt(paragraph) && !keepsAt(paragraph - 1)) {
                    turnPageFor(linesTogether(paragraph));
                }
                int behind = cell(firstLine, paragraph + 1);
                for (int line = cell(firstLine, paragraph); line < behind; line++) {
                    placeLine(line);
                }
            }
        }

        private boolean keepsAt(int paragraph) {
            return isWithin(paragraph, SPOTS) && keeps[paragraph];
        }

        // The lines of all paragraphs that are kept from this one on, and the first one behind them.
        private int linesTogether(int first) {
            int behind = first;
            for (int paragraph = first; paragraph < ends && keepsAt(paragraph); paragraph++) {
                behind++;
            }
            int together = cell(firstLine, behind) - cell(firstLine, first);
            return behind < ends ? together + 1 : together;
        }

        private void turnPageFor(int together) {
            int left = used >= height ? height : height - used;
            if (together > left && together <= height) {
                page++;
                used = 0;
            }
        }

        private void placeLine(int line) {
            if (used >= height) {
                page++;
                used = 0;
            }
            setCell(pageOfLine, line, page);
            setCell(rowOfLine, line, used);
            used++;
        }
    }
}
