/** Promises 17 to 25, and the terms writing and judging: each sentence that names an edge. */
public final class ChangesEdgesTest {
    private static final Story EMPTY = new Story();
    private static final int LEAST = Integer.MIN_VALUE;
    private static final int MOST = Integer.MAX_VALUE;

    public static void main(String[] args) {
        changes();
        wrongNumbers();
        kindsAuthorsStates();
        unitsOf();
        unitsOfStyles();
        changeAt();
        whichChangeIsWritten();
        whatIsErasedByWhom();
        acceptAndRefuse();
        judgedTwice();
        gone();
        styles();
        judge();
        judgeRefuses();
        judgingUndone();
        Check.end();
    }

    private static void changes() {
        EMPTY.answers("17: none", 0, x -> x.changes());
        Story one = EMPTY.then(x -> x.insert(0, 0, 'a'));
        one.answers("17: one", 1, x -> x.changes());
        one.then(x -> x.insert(0, 1, 'b')).answers("17: still one", 1, x -> x.changes());
        one.then(x -> x.undo()).answers("17: undone", 0, x -> x.changes());
        one.then(x -> x.undo()).then(x -> x.redo()).answers("17: done again", 1, x -> x.changes());
        one.then(x -> x.accept(0)).answers("17: accepted", 1, x -> x.changes());
        one.then(x -> x.refuse(0)).answers("17: refused", 1, x -> x.changes());
        one.then(x -> x.erase(0, 0, 1)).answers("17: without units", 1, x -> x.changes());
        Story full = Story.fullOfChanges();
        full.answers("17: as many as there may be", 60, x -> x.changes());
        full.then(x -> x.judge(-1, false)).answers("17: all of them judged", 60, x -> x.changes());
        Story.plain("abc").then(x -> x.setTracking(false)).then(x -> x.erase(0, 0, 1)).then(x -> x.setStyle(0, 0, 0))
                .answers("17: untracked there are none", 0, x -> x.changes());
    }

    private static void wrongNumbers() {
        Story two = Story.plain("abc").then(x -> x.insert(3, 0, 'x')).then(x -> x.erase(0, 2, 3));
        for (int wrong : new int[] {-1, 2, 60, LEAST, MOST}) {
            refuseNumber(two, wrong);
        }
        refuseNumber(EMPTY, 0);
        refuseNumber(EMPTY, -1);
        refuseNumber(Story.fullOfChanges(), 60);
        refuseNumber(Story.fullOfChanges(), -1);
        refuseNumber(two.then(x -> x.undo()), 1);
    }

    private static void refuseNumber(Story story, int wrong) {
        story.outOfBounds("18: change " + wrong, x -> x.kindOf(wrong));
        story.outOfBounds("19: change " + wrong, x -> x.authorOf(wrong));
        story.outOfBounds("20: change " + wrong, x -> x.stateOf(wrong));
        story.outOfBounds("21: change " + wrong, x -> x.unitsOf(wrong));
        story.outOfBounds("23: change " + wrong, x -> x.accept(wrong));
        story.outOfBounds("24: change " + wrong, x -> x.refuse(wrong));
    }

    private static void kindsAuthorsStates() {
        Story three = Story.plain("abc").then(x -> x.insert(3, 0, 'x')).then(x -> x.erase(0, 2, 3))
                .then(x -> x.setStyle(1, 0, 0)).then(x -> x.addField(2, 1, 'c', 0));
        char[] kinds = {'i', 'e', 's', 'i'};
        int[] authors = {3, 0, 1, 2};
        for (int k = 0; k < kinds.length; k++) {
            int change = k;
            three.answers("18: change " + k, kinds[k], x -> x.kindOf(change));
            three.answers("19: change " + k, authors[k], x -> x.authorOf(change));
            three.answers("20: change " + k, 'w', x -> x.stateOf(change));
            three.answers("21: change " + k, 1, x -> x.unitsOf(change));
            Story accepted = three.then(x -> x.accept(change));
            accepted.answers("20: accepted " + k, 'a', x -> x.stateOf(change));
            accepted.answers("18: its kind stays", kinds[k], x -> x.kindOf(change));
            accepted.answers("19: its author stays", authors[k], x -> x.authorOf(change));
            accepted.answers("21: it concerns none", 0, x -> x.unitsOf(change));
            accepted.answers("20: the others wait", 'w', x -> x.stateOf(3 - change));
            Story refused = three.then(x -> x.refuse(change));
            refused.answers("20: refused " + k, 'r', x -> x.stateOf(change));
            refused.answers("21: it concerns none", 0, x -> x.unitsOf(change));
        }
        Story full = Story.fullOfChanges();
        full.answers("18: the last of 60", 'i', x -> x.kindOf(59));
        full.answers("19: the last of 60", 1, x -> x.authorOf(59));
        full.then(x -> x.accept(59)).answers("20: the last of 60", 'a', x -> x.stateOf(59));
        full.answers("21: the last of 60", 1, x -> x.unitsOf(59));
    }

    private static void unitsOf() {
        Story.plain("a".repeat(200)).then(x -> x.erase(0, 0, 200)).answers("21: all 200", 200, x -> x.unitsOf(0));
        EMPTY.type(0, 0, "a".repeat(200)).answers("21: all 200 written", 200, x -> x.unitsOf(0));
        Story own = EMPTY.type(0, 0, "ab").then(x -> x.erase(0, 0, 2));
        own.answers("5: own ones are gone, without a change", 1, x -> x.changes());
        own.answers("21: none is left", 0, x -> x.unitsOf(0));
        own.answers("20: it waits still", 'w', x -> x.stateOf(0));
        own.answers("23: it can be accepted", 0, x -> x.accept(0));
        own.answers("24: or refused", 0, x -> x.refuse(0));
        Story both = EMPTY.type(0, 0, "ab").then(x -> x.erase(1, 0, 2));
        both.answers("21: written, though erased", 2, x -> x.unitsOf(0));
        both.answers("21: erased, though written", 2, x -> x.unitsOf(1));
        Story off = both.then(x -> x.undo()).then(x -> x.setTracking(false)).then(x -> x.erase(1, 0, 1));
        off.answers("21: erased untracked, it is gone", 1, x -> x.unitsOf(0));
    }

    private static void unitsOfStyles() {
        Story last = EMPTY.then(x -> x.setStyle(0, 0, 0));
        last.answers("21: the last end is one", 1, x -> x.unitsOf(0));
        last.answers("23: the last end", 1, x -> x.accept(0));
        last.answers("24: the last end", 1, x -> x.refuse(0));
        Story end = Story.plain("a/b").then(x -> x.setStyle(0, 0, 0));
        end.answers("21: another end is one", 1, x -> x.unitsOf(0));
        Story erased = end.then(x -> x.erase(1, 1, 2));
        erased.answers("21: an end that waits to go is there", 1, x -> x.unitsOf(0));
        erased.then(x -> x.refuse(1)).answers("21: there again", 1, x -> x.unitsOf(0));
        Story gone = erased.then(x -> x.accept(1));
        gone.answers("21: its end is gone", 0, x -> x.unitsOf(0));
        gone.answers("20: it waits all the same", 'w', x -> x.stateOf(0));
        gone.answers("23: it concerned none", 0, x -> x.accept(0));
        gone.answers("24: it concerned none", 0, x -> x.refuse(0));
        gone.answers("6: the joined one has no such change", 2, x -> x.setStyle(0, 0, 0));
        Story written = EMPTY.then(x -> x.insert(0, 0, '/')).then(x -> x.setStyle(1, 0, 0)).then(x -> x.refuse(0));
        written.answers("21: its end was refused", 0, x -> x.unitsOf(1));
    }

    private static void changeAt() {
        Story text = Story.plain("ab").then(x -> x.insert(0, 0, 'x')).then(x -> x.insert(1, 3, 'y'));
        text.answers("22: the first place", 0, x -> x.changeAt(0));
        text.answers("22: the last unit", 1, x -> x.changeAt(3));
        text.noElement("22: by no change", x -> x.changeAt(1));
        for (int place : new int[] {-1, 4, 5, LEAST, MOST}) {
            text.outOfBounds("22: place " + place, x -> x.changeAt(place));
        }
        EMPTY.outOfBounds("22: there is no unit", x -> x.changeAt(0));
        text.then(x -> x.accept(0)).noElement("22: accepted, it waits no more", x -> x.changeAt(0));
        Story erased = text.then(x -> x.erase(2, 0, 1));
        erased.noElement("22: an erased one has no place", x -> x.changeAt(0));
        erased.outOfBounds("22: the last place that is seen", x -> x.changeAt(3));
        erased.answers("22: the last unit that is seen", 1, x -> x.changeAt(2));
        erased.then(x -> x.refuse(2)).answers("22: there again, written by it", 0, x -> x.changeAt(0));
        Story styled = Story.plain("/").then(x -> x.setStyle(0, 0, 0));
        styled.noElement("22: a style does not write its end", x -> x.changeAt(0));
        styled.outOfBounds("22: nor the last one", x -> x.changeAt(1));
    }

    private static void whichChangeIsWritten() {
        Story text = Story.plain("ab");
        text.answers("3: behind what no change wrote", 0, x -> x.insert(0, 1, 'x'));
        Story one = text.then(x -> x.insert(0, 1, 'x'));
        one.answers("3: directly behind it", 0, x -> x.insert(0, 2, 'y'));
        one.answers("3: directly ahead of it", 1, x -> x.insert(0, 1, 'y'));
        one.answers("3: one further behind", 1, x -> x.insert(0, 3, 'y'));
        one.answers("3: of another author", 1, x -> x.insert(1, 2, 'y'));
        one.then(x -> x.accept(0)).answers("3: it waits no more", 1, x -> x.insert(0, 2, 'y'));
        Story again = one.then(x -> x.insert(1, 2, 'y'));
        again.answers("3: behind one of another author", 2, x -> x.insert(0, 3, 'z'));
        again.answers("3: between, behind the own one", 0, x -> x.insert(0, 2, 'z'));
        Story hidden = one.then(x -> x.erase(2, 1, 3));
        hidden.answers("3: the unit ahead is one that is not seen", 2, x -> x.insert(0, 1, 'z'));
        Story hiddenOwn = one.then(x -> x.erase(2, 1, 2));
        hiddenOwn.answers("3: not seen, but own, and it waits", 0, x -> x.insert(0, 1, 'z'));
        hiddenOwn.answers("3: not seen, and of another author", 2, x -> x.insert(1, 1, 'z'));
        Story end = EMPTY.then(x -> x.insert(0, 0, '/'));
        end.answers("3: also behind an end", 0, x -> x.insert(0, 1, 'a'));
        end.answers("3: at the begin there is none", 1, x -> x.insert(0, 0, 'a'));
        Story off = one.then(x -> x.setTracking(false)).then(x -> x.insert(0, 2, 'y')).then(x -> x.setTracking(true));
        off.answers("3: behind one that was written untracked", 1, x -> x.insert(0, 3, 'z'));
    }

    private static void whatIsErasedByWhom() {
        Story text = Story.plain("ab").type(0, 1, "xy").type(1, 3, "z");
        Story own = text.then(x -> x.erase(0, 1, 3));
        own.answers("5: only own ones, no change", 2, x -> x.changes());
        text.answers("5: only own ones", -1, x -> x.erase(0, 1, 3));
        text.answers("5: one own one", -1, x -> x.erase(0, 2, 3));
        text.answers("5: own ones and one ahead", 2, x -> x.erase(0, 0, 3));
        text.answers("5: own ones and one behind", 2, x -> x.erase(0, 1, 4));
        Story all = text.then(x -> x.erase(0, 0, 5));
        all.answers("5: one change for all others", 3, x -> x.unitsOf(2));
        all.answers("5: its author", 0, x -> x.authorOf(2));
        all.answers("5: the own ones are gone", 0, x -> x.unitsOf(0));
        all.answers("5: those of another one are erased", 1, x -> x.unitsOf(1));
        all.answers("12: none of it was old but two", 2, x -> x.oldLength());
        Story accepted = text.then(x -> x.accept(0)).then(x -> x.erase(0, 1, 3));
        accepted.answers("5: what waits no more is erased", 2, x -> x.unitsOf(2));
        Story around = text.then(x -> x.erase(2, 1, 4)).then(x -> x.erase(0, 0, 2));
        around.answers("5: what is not seen is no part of it", 3, x -> x.unitsOf(2));
        around.answers("5: only what is seen", 2, x -> x.unitsOf(3));
        around.answers("5: nor are own ones gone that are not seen", 2, x -> x.unitsOf(0));
        Story between = Story.plain("b").then(x -> x.insert(0, 0, 'x')).then(x -> x.insert(0, 2, 'y')).then(x -> x.erase(1, 1, 2));
        between.answers("5: nor is it one of the others", -1, x -> x.erase(0, 0, 2));
        between.then(x -> x.erase(0, 0, 2)).answers("5: so there is no new change", 3, x -> x.changes());
        Story off = text.then(x -> x.erase(2, 1, 4)).then(x -> x.setTracking(false)).then(x -> x.erase(0, 0, 2));
        off.answers("5: untracked, what is not seen stays", 3, x -> x.unitsOf(2));
        off.answers("5: untracked, what is seen is gone", 0, x -> x.oldLength());
    }

    private static void acceptAndRefuse() {
        Story text = Story.plain("abc").type(0, 1, "xy").then(x -> x.erase(1, 3, 5));
        text.answers("23: writing", 2, x -> x.accept(0));
        text.answers("24: writing", 2, x -> x.refuse(0));
        text.answers("23: erasing", 2, x -> x.accept(1));
        text.answers("24: erasing", 2, x -> x.refuse(1));
        Check.due("23: what it has written stays", Check.old(text.then(x -> x.accept(0)).office()), "axybc");
        Check.due("24: what it has written is gone", Check.text(text.then(x -> x.refuse(0)).office()), "a");
        Check.due("23: what it has erased is gone", Check.old(text.then(x -> x.accept(1)).office()), "a");
        Check.due("24: what it has erased is there again", Check.text(text.then(x -> x.refuse(1)).office()), "axybc");
        Story protect = text.then(x -> x.protect(0, true));
        protect.answers("23: a protected paragraph does not matter", 2, x -> x.accept(1));
        protect.answers("24: nor here", 2, x -> x.refuse(0));
        text.then(x -> x.setTracking(false)).answers("23: untracked, too", 2, x -> x.accept(0));
        Story last = Story.plain("ab/").then(x -> x.erase(1, 2, 3)).then(x -> x.erase(1, 0, 2));
        last.then(x -> x.accept(0)).answers("23: one of two", 'w', x -> x.stateOf(1));
        last.then(x -> x.accept(0)).answers("23: the other one keeps its units", 2, x -> x.unitsOf(1));
    }

    private static void judgedTwice() {
        Story text = Story.plain("ab").then(x -> x.insert(0, 0, 'x')).then(x -> x.erase(1, 1, 2)).then(x -> x.setStyle(2, 0, 0));
        for (int k = 0; k < 3; k++) {
            int change = k;
            for (boolean isAccepted : new boolean[] {true, false}) {
                Story judged = text.then(x -> isAccepted ? x.accept(change) : x.refuse(change));
                judged.badState("23: it waits no more", x -> x.accept(change));
                judged.badState("24: it waits no more", x -> x.refuse(change));
                judged.answers("25: the two others", 2, x -> x.judge(-1, true));
            }
        }
        Story off = text.then(x -> x.setTracking(false)).then(x -> x.setStyle(0, 0, 0));
        off.badState("23: a style set untracked has ended it", x -> x.accept(2));
        off.badState("24: and it counts as accepted", x -> x.refuse(2));
        off.answers("20: accepted", 'a', x -> x.stateOf(2));
        text.then(x -> x.accept(0)).then(x -> x.undo()).answers("23: undone, it waits", 1, x -> x.accept(0));
    }

    private static void gone() {
        Story text = EMPTY.type(0, 0, "abc").then(x -> x.erase(1, 1, 3));
        Story refused = text.then(x -> x.refuse(0));
        refused.answers("24: gone, also for the erasing", 0, x -> x.unitsOf(1));
        refused.answers("24: which waits", 0, x -> x.refuse(1));
        refused.then(x -> x.refuse(1)).answers("24: and gives nothing back", 0, x -> x.length());
        Story accepted = text.then(x -> x.accept(1));
        accepted.answers("23: gone, also for the writing", 1, x -> x.unitsOf(0));
        accepted.then(x -> x.refuse(0)).answers("24: the rest goes", 0, x -> x.length());
        text.then(x -> x.refuse(1)).answers("24: there again, still written by it", 3, x -> x.unitsOf(0));
    }

    private static void styles() {
        Story text = Story.plain("a/b").then(x -> x.addStyle(0, true, -1)).then(x -> x.addStyle(0, false, -1));
        Story set = text.then(x -> x.setStyle(0, 0, 1)).then(x -> x.setStyle(1, 0, 2));
        set.answers("6: the same change is told", 0, x -> x.setStyle(2, 0, 2));
        set.answers("19: it is the first one's", 0, x -> x.authorOf(0));
        set.answers("17: there is one alone", 1, x -> x.changes());
        set.then(x -> x.refuse(0)).answers("24: what another one set later goes, too", 0, x -> x.styleOf(0));
        set.then(x -> x.accept(0)).answers("23: what was set last stays", 2, x -> x.styleOf(0));
        Story accepted = set.then(x -> x.accept(0)).then(x -> x.setStyle(3, 0, 1));
        accepted.answers("6: a new one then", 2, x -> x.changes());
        accepted.then(x -> x.refuse(1)).answers("24: it kept what was there", 2, x -> x.styleOf(0));
        Story same = text.then(x -> x.setStyle(0, 0, 0)).then(x -> x.setStyle(0, 0, 1));
        same.answers("6: the one that was there has its change, too", 1, x -> x.changes());
        same.then(x -> x.refuse(0)).answers("24: it kept that", 0, x -> x.styleOf(0));
        Story off = set.then(x -> x.setTracking(false)).then(x -> x.setStyle(3, 0, 0));
        off.answers("6: untracked, it is set", 0, x -> x.styleOf(0));
        off.answers("20: the one that waited counts as accepted", 'a', x -> x.stateOf(0));
        off.answers("6: no other one", 1, x -> x.changes());
        Story other = off.then(x -> x.setTracking(true)).then(x -> x.setStyle(3, 0, 1));
        other.answers("6: tracked again, a new one", 's', x -> x.kindOf(1));
        other.then(x -> x.refuse(1)).answers("24: which kept what was set untracked", 0, x -> x.styleOf(0));
        Story both = text.then(x -> x.setStyle(0, 0, 1)).then(x -> x.setStyle(0, 1, 2));
        both.answers("6: another paragraph, another change", 2, x -> x.changes());
        both.then(x -> x.refuse(1)).answers("24: the last end", 0, x -> x.styleOf(1));
        both.then(x -> x.refuse(1)).answers("24: the other one stays", 1, x -> x.styleOf(0));
        Story empty = Story.plain("/").then(x -> x.addStyle(0, true, -1)).then(x -> x.setStyle(0, 0, 1));
        empty.then(x -> x.refuse(0)).answers("24: the end of an empty paragraph, the first unit of all", 0, x -> x.styleOf(0));
        empty.then(x -> x.accept(0)).answers("23: it stays there, too", 1, x -> x.styleOf(0));
        empty.then(x -> x.accept(0)).answers("6: and has no change that waits", 1, x -> x.setStyle(0, 0, 0));
        Story only = EMPTY.then(x -> x.addStyle(0, true, -1)).then(x -> x.setStyle(0, 0, 1)).then(x -> x.refuse(0));
        only.answers("24: the last end of a text without units", 0, x -> x.styleOf(0));
        Story joined = text.then(x -> x.erase(1, 1, 2)).then(x -> x.setStyle(0, 0, 1)).then(x -> x.refuse(0));
        joined.answers("6: set on the end that was seen", 0, x -> x.styleOf(0));
        joined.answers("6: the last one", 1, x -> x.styleOf(1));
    }

    private static void judge() {
        Story text = Story.plain("abcd").then(x -> x.insert(0, 0, 'x')).then(x -> x.insert(3, 5, 'y'))
                .then(x -> x.erase(0, 1, 2)).then(x -> x.setStyle(2, 0, 0)).then(x -> x.accept(2));
        text.answers("25: the first author", 1, x -> x.judge(0, true));
        text.answers("25: one without any", 0, x -> x.judge(1, true));
        text.answers("25: a style", 1, x -> x.judge(2, false));
        text.answers("25: the last author", 1, x -> x.judge(3, false));
        text.answers("25: all that wait", 3, x -> x.judge(-1, true));
        EMPTY.answers("25: of none", 0, x -> x.judge(-1, false));
        EMPTY.answers("25: of none", 0, x -> x.judge(3, true));
        Story all = text.then(x -> x.judge(-1, false));
        all.answers("25: none waits then", 0, x -> x.judge(-1, true));
        char[] states = {'r', 'r', 'a', 'r'};
        for (int k = 0; k < states.length; k++) {
            int change = k;
            all.answers("20: change " + k, states[k], x -> x.stateOf(change));
        }
        Story one = text.then(x -> x.judge(3, true));
        one.answers("20: another author's waits", 'w', x -> x.stateOf(0));
        one.answers("20: its own is accepted", 'a', x -> x.stateOf(1));
        Story own = EMPTY.then(x -> x.insert(1, 0, 'a')).then(x -> x.erase(1, 0, 1));
        own.answers("25: one without units is counted", 1, x -> x.judge(1, true));
        Story goes = EMPTY.then(x -> x.insert(0, 0, 'a')).then(x -> x.erase(1, 0, 1));
        goes.answers("25: also one whose units go with the one ahead", 2, x -> x.judge(-1, false));
        Story.fullOfChanges().answers("25: all 60", 60, x -> x.judge(-1, true));
        Story.fullOfChanges().answers("25: 30 of one author", 30, x -> x.judge(1, false));
    }

    private static void judgeRefuses() {
        Story text = Story.plain("ab").then(x -> x.insert(0, 0, 'x')).then(x -> x.erase(3, 1, 2));
        for (int author : new int[] {-2, 4, LEAST, MOST}) {
            text.outOfBounds("25: author " + author, x -> x.judge(author, true));
            text.outOfBounds("25: author " + author, x -> x.judge(author, false));
        }
    }

    private static void judgingUndone() {
        Story text = Story.plain("ab").then(x -> x.insert(0, 0, 'x')).then(x -> x.erase(1, 0, 2));
        String before = Check.all(text.office());
        Check.due("8: accepting", Check.all(text.then(x -> x.accept(1)).then(x -> x.undo()).office()), before);
        Check.due("8: refusing", Check.all(text.then(x -> x.refuse(0)).then(x -> x.undo()).office()), before);
        Check.due("8: all judged are one edit", Check.all(text.then(x -> x.judge(-1, true)).then(x -> x.undo()).office()), before);
        text.then(x -> x.judge(2, true)).answers("8: none judged is one edit, too", 4, x -> x.undo());
    }
}
