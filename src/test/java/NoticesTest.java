/** Promises 6 to 8, 10, 11 and 14 to 17: notices, breaks and listeners. */
public final class NoticesTest {
    private static final int NO_SUCH = NoticeShifts.NO_SUCH;
    private static final int BAD_VALUE = NoticeShifts.BAD_VALUE;
    private static final int TOO_MANY = NoticeShifts.TOO_MANY;
    private static final int NOT_POSSIBLE = NoticeShifts.NOT_POSSIBLE;
    private static final int NONE = NoticeShifts.NONE;

    private static final Checks checks = new Checks();

    public static void main(String[] args) {
        notice();
        book();
        empty();
        listener();
        load();
        booked();
        ofNotice();
        of();
        outOfDate();
        count();
        longest();
        nothingIsLeftOver();
        allPlacesTaken();
        checks.finish();
    }

    private static void notice() {
        NoticeShifts x = new NoticeShifts();
        checks.due("6: length 0", x.notice(0, 1), BAD_VALUE);
        checks.due("6: length 121", x.notice(121, 1), BAD_VALUE);
        checks.due("6: groups 0", x.notice(1, 0), BAD_VALUE);
        checks.due("6: groups 64", x.notice(1, 64), BAD_VALUE);
        checks.due("6: groups -1", x.notice(1, -1), BAD_VALUE);
        checks.due("6: no error recorded", x.count(8), 0);
        checks.due("6: the least", x.notice(1, 1), 0);
        checks.due("6: the most", x.notice(120, 63), 1);
        for (int number = 2; number < 8; number++) {
            checks.due("6: notice " + number, x.notice(number, number), number);
        }
        checks.due("6: a ninth", x.notice(5, 5), TOO_MANY);
        checks.due("6: BAD_VALUE comes first", x.notice(0, 5), BAD_VALUE);
        checks.due("6: there are 8", x.count(3), 8);
        checks.due("6: length", x.ofNotice(1, 0), 120);
        checks.due("6: groups", x.ofNotice(1, 1), 63);
    }

    private static void book() {
        NoticeShifts x = new NoticeShifts();
        checks.due("7: no notice", x.book(0, 0), NO_SUCH);
        x.notice(5, 1);
        x.notice(6, 1);
        checks.due("7: no sentence", x.book(1, 0), NO_SUCH);
        checks.due("7: no sentence", x.book(-1, 0), NO_SUCH);
        checks.due("7: no notice", x.book(0, 2), NO_SUCH);
        checks.due("7: no notice", x.book(0, -1), NO_SUCH);
        int[] row = {1, 0, 0, 1};
        for (int place = 0; place < 4; place++) {
            checks.due("7: then the row has", x.book(0, row[place]), place + 1);
        }
        checks.due("7: a fifth", x.book(0, 0), TOO_MANY);
        checks.due("7: NO_SUCH comes first", x.book(0, 2), NO_SUCH);
        for (int place = 0; place < 4; place++) {
            checks.due("7: at the end", x.booked(0, place), row[place]);
        }
        checks.due("7: recorded", x.count(8), 6);
    }

    private static void empty() {
        NoticeShifts x = new NoticeShifts();
        x.notice(5, 1);
        x.putIn(1, 5);
        x.book(0, 0);
        x.book(0, 0);
        x.book(1, 0);
        checks.due("8: not there", x.empty(2), NO_SUCH);
        checks.due("8: not there", x.empty(-1), NO_SUCH);
        checks.due("8: five changes", x.count(8), 5);
        checks.due("8: it had two", x.empty(0), 2);
        checks.due("8: it has none", x.sentence(0, 5), 0);
        checks.due("8: the other one stays", x.sentence(1, 5), 1);
        checks.due("30: undone", x.undo(), 5);
        checks.due("30: two again", x.sentence(0, 5), 2);
        checks.due("8: it had two", x.empty(0), 2);
        checks.due("30: undone", x.undo(), 5);
        checks.due("30: undone", x.undo(), 4);
        checks.due("30: undone", x.undo(), 3);
        checks.due("30: undone", x.undo(), 2);
        checks.due("8: an empty one", x.empty(0), 0);
        checks.due("8: is a change", x.count(8), 3);
    }

    private static void listener() {
        NoticeShifts x = new NoticeShifts();
        checks.due("10: group 6", x.listener(6, 0), BAD_VALUE);
        checks.due("10: group -1", x.listener(-1, 0), BAD_VALUE);
        checks.due("10: bound 601", x.listener(0, 601), BAD_VALUE);
        checks.due("10: bound -1", x.listener(0, -1), BAD_VALUE);
        checks.due("10: no error recorded", x.count(8), 0);
        for (int number = 0; number < 6; number++) {
            checks.due("10: listener " + number, x.listener(5 - number, number * 120), number);
        }
        checks.due("10: a seventh", x.listener(0, 0), TOO_MANY);
        checks.due("10: BAD_VALUE comes first", x.listener(6, 0), BAD_VALUE);
        checks.due("10: six changes", x.count(8), 6);
        for (int number = 0; number < 6; number++) {
            checks.due("10: group", x.of(number, 0), 5 - number);
            checks.due("10: bound", x.of(number, 1), number * 120);
            checks.due("10: no file", x.of(number, 2), 0);
        }
    }

    private static void load() {
        NoticeShifts x = new NoticeShifts();
        checks.due("11: no listener", x.load(0, false), NO_SUCH);
        checks.due("11: no listener", x.load(0, true), NO_SUCH);
        x.notice(4, 1);
        x.listener(0, 600);
        x.listener(0, 600);
        x.book(0, 0);
        checks.due("11: no listener", x.load(2, false), NO_SUCH);
        checks.due("11: no listener", x.load(-1, false), NO_SUCH);
        checks.due("11: no file", x.load(0, true), NOT_POSSIBLE);
        checks.due("11: no error recorded", x.count(8), 4);
        checks.due("11: loads", x.load(0, false), 14);
        x.change(0, 100);
        checks.due("11: the file stays", x.of(0, 4), 14);
        checks.due("11: the other one has none", x.of(1, 4), 104);
        checks.due("11: loads in place of it", x.load(0, false), 104);
        x.empty(0);
        checks.due("11: the file stays", x.of(0, 4), 104);
        checks.due("11: throws away", x.load(0, true), 100);
        checks.due("11: there is none", x.of(0, 2), 0);
        checks.due("11: throws away twice", x.load(0, true), NOT_POSSIBLE);
        checks.due("30: undone", x.undo(), 5);
        checks.due("30: the file is back", x.of(0, 4), 104);
        checks.due("30: undone", x.undo(), 4);
        checks.due("30: undone", x.undo(), 3);
        checks.due("30: the file of before", x.of(0, 4), 14);
    }

    /** What was there ahead of an undo or a restore is not taken for what is there now. */
    private static void nothingIsLeftOver() {
        NoticeShifts x = new NoticeShifts();
        x.save(0);
        x.notice(4, 1);
        x.listener(0, 600);
        x.book(0, 0);
        x.load(0, false);
        x.save(1);
        x.restore(0);
        x.notice(9, 2);
        x.listener(1, 600);
        checks.due("10: without a file", x.of(0, 2), 0);
        checks.due("10: without a file", x.of(0, 4), 10);
        x.book(0, 0);
        checks.due("11: the other file", x.load(0, false), 19);
        checks.due("32: restored", x.restore(1), 1);
        checks.due("32: the group", x.of(0, 0), 0);
        checks.due("32: the groups", x.ofNotice(0, 1), 1);
        checks.due("32: the file", x.of(0, 4), 14);
        checks.due("32: its notice", x.heard(0, 0), 0);
        checks.due("32: it is up to date", x.of(0, 3), 0);
        checks.due("30: undone", x.undo(), 5);
        checks.due("30: the file", x.of(0, 4), 19);
    }

    /** Whatever is looked at, nothing lies behind the last place. */
    private static void allPlacesTaken() {
        NoticeShifts x = new NoticeShifts();
        for (int number = 0; number < 8; number++) {
            x.notice(120, 63);
        }
        for (int sentence = 1; sentence < 24; sentence++) {
            x.putIn(sentence, 300);
            x.chapter(sentence, true);
        }
        for (int place = 0; place < 96; place++) {
            x.book(place % 24, place % 8);
        }
        for (int number = 0; number < 6; number++) {
            x.listener(number, 600 - number);
            x.load(number, false);
        }
        checks.due("17: files up to date", x.count(5), 0);
        checks.due("17: the longest", x.count(6), 0);
        for (int number = 0; number < 6; number++) {
            int seconds = number == 0 ? 600 : 480;
            checks.due("16: length", x.of(number, 4), 10 + 23 * 300 + seconds);
            checks.due("16: notices", x.of(number, 5), seconds / 120);
            checks.due("26: enough", x.enough(number), 600);
        }
        checks.due("15: breaks", x.ofNotice(7, 2), 3);
        checks.due("15: listeners", x.ofNotice(3, 3), 6);
        checks.due("15: listeners", x.ofNotice(4, 3), 1);
        checks.due("25: all rows have 4", x.bestBreak(0, 0), NONE);
        checks.due("24: the row has 4", x.ifBooked(23, 0), TOO_MANY);
        x.empty(23);
        checks.due("25: the last one", x.bestBreak(7, 0), 23);
        checks.due("24: the last one", x.ifBooked(23, 7), 10000);
        checks.due("13: the last one", x.marked(23), 23);
        checks.due("3: the last one", x.cutOut(23), 23);
        checks.due("3: the first one", x.cutOut(0), 0);
        checks.due("17: all out of date", x.count(5), 63);
        checks.due("17: length", x.count(1), 22 * 300);
    }

    private static void booked() {
        NoticeShifts x = new NoticeShifts();
        x.notice(4, 1);
        x.notice(5, 1);
        x.putIn(1, 5);
        x.book(1, 1);
        x.book(1, 0);
        checks.due("14: place 0", x.booked(1, 0), 1);
        checks.due("14: place 1", x.booked(1, 1), 0);
        checks.due("14: place 2", x.booked(1, 2), NO_SUCH);
        checks.due("14: place -1", x.booked(1, -1), NO_SUCH);
        checks.due("14: an empty row", x.booked(0, 0), NO_SUCH);
        checks.due("14: no sentence", x.booked(2, 0), NO_SUCH);
        checks.due("14: no sentence", x.booked(-1, 0), NO_SUCH);
        x.empty(1);
        checks.due("14: emptied", x.booked(1, 0), NO_SUCH);
    }

    private static void ofNotice() {
        NoticeShifts x = new NoticeShifts();
        checks.due("15: no notice", x.ofNotice(0, 0), NO_SUCH);
        x.notice(20, 5);
        x.notice(30, 2);
        x.putIn(1, 5);
        x.listener(0, 20);
        x.listener(1, 600);
        x.listener(2, 19);
        x.listener(2, 600);
        x.book(0, 0);
        x.book(0, 0);
        x.book(1, 0);
        checks.due("15: length", x.ofNotice(0, 0), 20);
        checks.due("15: groups", x.ofNotice(0, 1), 5);
        checks.due("15: breaks, not places", x.ofNotice(0, 2), 2);
        checks.due("15: listeners", x.ofNotice(0, 3), 2);
        checks.due("15: in no break", x.ofNotice(1, 2), 0);
        checks.due("15: no listeners", x.ofNotice(1, 3), 0);
        x.load(0, false);
        x.empty(0);
        x.empty(1);
        x.book(0, 1);
        checks.due("15: without regard to files", x.ofNotice(0, 3), 0);
        checks.due("15: without regard to files", x.ofNotice(1, 3), 1);
        checks.due("15: what 4", x.ofNotice(0, 4), BAD_VALUE);
        checks.due("15: what -1", x.ofNotice(0, -1), BAD_VALUE);
        checks.due("15: NO_SUCH comes first", x.ofNotice(2, 4), NO_SUCH);
        checks.due("15: not there", x.ofNotice(-1, 0), NO_SUCH);
    }

    private static void of() {
        NoticeShifts x = new NoticeShifts();
        checks.due("16: no listener", x.of(0, 0), NO_SUCH);
        x.notice(20, 63);
        x.notice(7, 63);
        x.putIn(1, 30);
        x.putIn(2, 40);
        x.listener(4, 30);
        x.book(0, 0);
        x.book(1, 0);
        x.book(1, 1);
        int[] fresh = {4, 30, 0, 0, 107, 2, 27, 3};
        for (int what = 0; what < 8; what++) {
            checks.due("16: of(0, " + what + ")", x.of(0, what), fresh[what]);
        }
        x.load(0, false);
        checks.due("16: up to date", x.of(0, 3), 0);
        x.cutOut(1);
        int[] old = {4, 30, 1, 1, 107, 2, 27, 3};
        for (int what = 0; what < 8; what++) {
            checks.due("16: with a file of(0, " + what + ")", x.of(0, what), old[what]);
        }
        checks.due("16: what 8", x.of(0, 8), BAD_VALUE);
        checks.due("16: what -1", x.of(0, -1), BAD_VALUE);
        checks.due("16: NO_SUCH comes first", x.of(1, 8), NO_SUCH);
        checks.due("16: not there", x.of(-1, 0), NO_SUCH);
    }

    /** Each thing in which a file can differ, alone. */
    private static void outOfDate() {
        NoticeShifts x = new NoticeShifts();
        x.notice(20, 1);
        x.notice(20, 1);
        x.notice(20, 2);
        x.putIn(1, 10);
        x.listener(0, 600);
        x.book(0, 0);
        x.load(0, false);
        x.save(0);
        checks.due("16: as it was", x.of(0, 3), 0);
        x.book(0, 1);
        checks.due("16: a row that is longer, and the same is heard", x.of(0, 3), 0);
        x.empty(0);
        checks.due("16: a notice less", x.of(0, 3), 1);
        x.book(0, 2);
        x.book(0, 0);
        checks.due("16: the same is heard again", x.of(0, 3), 0);
        x.empty(0);
        x.book(0, 1);
        checks.due("16: another notice of the same length", x.of(0, 3), 1);
        x.restore(0);
        x.change(1, 11);
        checks.due("16: a length", x.of(0, 3), 1);
        x.restore(0);
        x.change(0, 9);
        checks.due("16: the length of the first one", x.of(0, 3), 1);
        x.restore(0);
        x.chapter(1, true);
        checks.due("16: a chapter", x.of(0, 3), 1);
        x.chapter(1, false);
        checks.due("16: the chapter is gone again", x.of(0, 3), 0);
        x.cutOut(1);
        checks.due("16: a sentence less", x.of(0, 3), 1);
        x.putIn(1, 10);
        checks.due("16: another mark", x.of(0, 3), 1);
        checks.due("17: as a set", x.count(5), 1);
        x.restore(0);
        checks.due("16: restored", x.of(0, 3), 0);
        x.putIn(2, 1);
        checks.due("16: a sentence more", x.of(0, 3), 1);
        x.load(0, false);
        checks.due("16: loaded again", x.of(0, 3), 0);
    }

    private static void count() {
        NoticeShifts x = new NoticeShifts();
        x.putIn(1, 20);
        x.chapter(1, true);
        x.notice(5, 63);
        x.listener(0, 5);
        x.listener(0, 4);
        x.listener(0, 5);
        x.load(0, false);
        x.load(2, false);
        x.put(Checks.packed("0/."));
        int[] due = {2, 30, 2, 1, 3, 0, 0, 3, 6};
        for (int what = 0; what < due.length; what++) {
            checks.due("17: count(" + what + ")", x.count(what), due[what]);
        }
        x.book(0, 0);
        checks.due("17: the episode has no notices in its length", x.count(1), 30);
        checks.due("17: out of date", x.count(5), 5);
        x.load(1, false);
        checks.due("17: not that which is up to date", x.count(5), 5);
        x.load(0, true);
        checks.due("17: not that which is not there", x.count(5), 4);
        checks.due("17: what 9", x.count(9), BAD_VALUE);
        checks.due("17: what -1", x.count(-1), BAD_VALUE);
    }

    private static void longest() {
        NoticeShifts x = new NoticeShifts();
        checks.due("17: without listeners", x.count(6), NONE);
        x.notice(5, 63);
        x.listener(0, 4);
        x.listener(0, 5);
        x.listener(0, 6);
        checks.due("17: of several the lowest", x.count(6), 0);
        x.book(0, 0);
        checks.due("17: the longest", x.count(6), 1);
        x.load(2, false);
        x.change(0, 1);
        checks.due("17: with the file", x.count(6), 2);
        x.load(2, true);
        x.listener(0, 600);
        x.notice(30, 63);
        x.empty(0);
        x.book(0, 1);
        checks.due("17: the last one", x.count(6), 3);
        x.undo();
        x.undo();
        x.undo();
        x.undo();
        checks.due("17: without the last one", x.count(6), 1);
        checks.due("15: without the last one", x.ofNotice(0, 3), 2);
    }
}
