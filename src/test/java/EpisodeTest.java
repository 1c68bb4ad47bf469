/** Promises 1 to 5, 12 and 13: the episode. */
public final class EpisodeTest {
    private static final int NO_SUCH = NoticeShifts.NO_SUCH;
    private static final int BAD_VALUE = NoticeShifts.BAD_VALUE;
    private static final int TOO_MANY = NoticeShifts.TOO_MANY;
    private static final int NOT_POSSIBLE = NoticeShifts.NOT_POSSIBLE;
    private static final int NONE = NoticeShifts.NONE;

    private static final Checks checks = new Checks();

    public static void main(String[] args) {
        newObject();
        putIn();
        putInAtItsLimits();
        marksAreNotGivenAgain();
        cutOut();
        change();
        chapter();
        sentence();
        marked();
        checks.finish();
    }

    private static void newObject() {
        NoticeShifts x = new NoticeShifts();
        int[] counts = {1, 10, 1, 0, 0, 0, NONE, 0, 0};
        for (int what = 0; what < counts.length; what++) {
            checks.due("1: count(" + what + ")", x.count(what), counts[what]);
        }
        int[] first = {0, 10, 0, 0, 1, 0};
        for (int what = 0; what < first.length; what++) {
            checks.due("1: sentence(0, " + what + ")", x.sentence(0, what), first[what]);
        }
        checks.due("1: fault()", x.fault(), 0);
        checks.due("1: restore(0)", x.restore(0), NOT_POSSIBLE);
        checks.due("1: restore(1)", x.restore(1), NOT_POSSIBLE);
        checks.due("1: undo()", x.undo(), NOT_POSSIBLE);
    }

    private static void putIn() {
        NoticeShifts x = new NoticeShifts();
        x.notice(5, 1);
        x.book(0, 0);
        checks.due("2: behind the last", x.putIn(1, 300), 1);
        checks.due("2: between", x.putIn(1, 1), 2);
        checks.due("2: ahead of the first", x.putIn(0, 7), 3);
        int[] marks = {3, 0, 2, 1};
        int[] lengths = {7, 10, 1, 300};
        int[] begins = {1, 1, 0, 0};
        int[] rows = {0, 1, 0, 0};
        for (int s = 0; s < 4; s++) {
            checks.due("2: mark " + s, x.sentence(s, 0), marks[s]);
            checks.due("2: length " + s, x.sentence(s, 1), lengths[s]);
            checks.due("2: begins " + s, x.sentence(s, 4), begins[s]);
            checks.due("2: row " + s, x.sentence(s, 5), rows[s]);
        }
        x.book(2, 0);
        checks.due("2: the break goes with its sentence", x.putIn(2, 4), 4);
        checks.due("2: the new break is empty", x.sentence(2, 5), 0);
        checks.due("2: the one behind keeps its break", x.sentence(3, 5), 1);
    }

    private static void putInAtItsLimits() {
        NoticeShifts x = new NoticeShifts();
        checks.due("2: place 2 of 1", x.putIn(2, 5), NO_SUCH);
        checks.due("2: place -1", x.putIn(-1, 5), NO_SUCH);
        checks.due("2: NO_SUCH comes first", x.putIn(-1, 0), NO_SUCH);
        checks.due("2: length 0", x.putIn(0, 0), BAD_VALUE);
        checks.due("2: length 301", x.putIn(1, 301), BAD_VALUE);
        checks.due("2: no error recorded", x.count(8), 0);
        for (int n = 1; n < 24; n++) {
            checks.due("2: sentence " + n, x.putIn(n, n), n);
        }
        checks.due("2: a 25th", x.putIn(24, 5), TOO_MANY);
        checks.due("2: a 25th at a place that is not there", x.putIn(25, 5), NO_SUCH);
        checks.due("2: a 25th without a length", x.putIn(0, 301), BAD_VALUE);
        checks.due("2: there are 24", x.count(0), 24);
        checks.due("2: length of all", x.count(1), 10 + 23 * 24 / 2);
    }

    private static void marksAreNotGivenAgain() {
        NoticeShifts x = new NoticeShifts();
        for (int mark = 1; mark < 100; mark++) {
            checks.due("2: mark " + mark, x.putIn(1, 5), mark);
            if (mark < 99) {
                checks.due("3: mark " + mark, x.cutOut(1), mark);
            }
        }
        checks.due("2: a mark 100", x.putIn(1, 5), TOO_MANY);
        checks.due("2: BAD_VALUE ahead of TOO_MANY", x.putIn(1, 0), BAD_VALUE);
        checks.due("30: undo gives the mark back", x.undo(), 5);
        checks.due("2: mark 99 again", x.putIn(0, 5), 99);
    }

    private static void cutOut() {
        NoticeShifts x = new NoticeShifts();
        checks.due("3: the only one", x.cutOut(0), NOT_POSSIBLE);
        checks.due("3: not there", x.cutOut(1), NO_SUCH);
        checks.due("3: not there", x.cutOut(-1), NO_SUCH);
        x.putIn(1, 20);
        x.putIn(2, 30);
        x.notice(5, 1);
        x.notice(6, 1);
        x.book(1, 0);
        x.book(2, 1);
        x.book(2, 0);
        checks.due("3: its mark", x.cutOut(0), 0);
        checks.due("3: the next one begins a chapter", x.sentence(0, 4), 1);
        checks.due("3: the mark of the next one", x.sentence(0, 0), 1);
        checks.due("3: its length", x.sentence(0, 1), 20);
        checks.due("3: the breaks go with their sentences", x.sentence(0, 5), 1);
        checks.due("3: the breaks go with their sentences", x.sentence(1, 5), 2);
        checks.due("3: the last one", x.cutOut(1), 2);
        checks.due("3: one is left", x.count(0), 1);
        checks.due("3: not there any more", x.cutOut(1), NO_SUCH);
        checks.due("3: and the only one", x.cutOut(0), NOT_POSSIBLE);
        checks.due("3: its break is gone", x.ofNotice(1, 2), 0);
    }

    private static void change() {
        NoticeShifts x = new NoticeShifts();
        x.putIn(1, 20);
        checks.due("4: the previous one", x.change(1, 1), 20);
        checks.due("4: the previous one", x.change(1, 300), 1);
        checks.due("4: of now", x.sentence(1, 1), 300);
        checks.due("4: the other one stays", x.sentence(0, 1), 10);
        checks.due("4: length 0", x.change(1, 0), BAD_VALUE);
        checks.due("4: length 301", x.change(1, 301), BAD_VALUE);
        checks.due("4: NO_SUCH comes first", x.change(2, 0), NO_SUCH);
        checks.due("4: not there", x.change(-1, 5), NO_SUCH);
        checks.due("4: an error changes nothing", x.sentence(1, 1), 300);
        checks.due("4: three changes", x.count(8), 3);
        checks.due("4: to the same", x.change(1, 300), 300);
        checks.due("4: is a change", x.count(8), 4);
    }

    private static void chapter() {
        NoticeShifts x = new NoticeShifts();
        x.putIn(1, 20);
        x.putIn(2, 30);
        checks.due("5: the first one", x.chapter(0, true), NOT_POSSIBLE);
        checks.due("5: the first one", x.chapter(0, false), NOT_POSSIBLE);
        checks.due("5: so already", x.chapter(1, false), NOT_POSSIBLE);
        checks.due("5: not there", x.chapter(3, true), NO_SUCH);
        checks.due("5: not there", x.chapter(-1, true), NO_SUCH);
        checks.due("5: no error recorded", x.count(8), 2);
        checks.due("5: begins", x.chapter(2, true), 2);
        checks.due("5: so already", x.chapter(2, true), NOT_POSSIBLE);
        checks.due("5: begins", x.chapter(1, true), 3);
        checks.due("5: not any more", x.chapter(1, false), 2);
        checks.due("5: as many are counted", x.count(2), 2);
        checks.due("5: three changes", x.count(8), 5);
        x.cutOut(0);
        checks.due("5: the new first one", x.chapter(0, false), NOT_POSSIBLE);
    }

    private static void sentence() {
        NoticeShifts x = new NoticeShifts();
        x.putIn(1, 20);
        x.putIn(0, 5);
        x.putIn(3, 9);
        x.chapter(3, true);
        x.notice(5, 1);
        x.book(3, 0);
        x.book(3, 0);
        int[][] due = {{2, 5, 0, 0, 1, 0}, {0, 10, 5, 1, 1, 0}, {1, 20, 15, 1, 0, 0}, {3, 9, 35, 2, 1, 2}};
        for (int s = 0; s < due.length; s++) {
            for (int what = 0; what < 6; what++) {
                checks.due("12: sentence(" + s + ", " + what + ")", x.sentence(s, what), due[s][what]);
            }
        }
        checks.due("12: what 6", x.sentence(0, 6), BAD_VALUE);
        checks.due("12: what -1", x.sentence(0, -1), BAD_VALUE);
        checks.due("12: not there", x.sentence(4, 0), NO_SUCH);
        checks.due("12: NO_SUCH comes first", x.sentence(-1, 6), NO_SUCH);
    }

    private static void marked() {
        NoticeShifts x = new NoticeShifts();
        x.putIn(0, 20);
        x.putIn(1, 20);
        checks.due("13: mark 0", x.marked(0), 2);
        checks.due("13: mark 1", x.marked(1), 0);
        checks.due("13: mark 2", x.marked(2), 1);
        checks.due("13: mark 3", x.marked(3), NO_SUCH);
        checks.due("13: mark -1", x.marked(-1), NO_SUCH);
        x.cutOut(0);
        checks.due("13: mark 1 is gone", x.marked(1), NO_SUCH);
        checks.due("13: mark 0 has moved", x.marked(0), 1);
    }
}
