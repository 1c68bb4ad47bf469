/** Promises 24 to 26: what if. */
public final class WhatIfTest {
    private static final int NO_SUCH = NoticeShifts.NO_SUCH;
    private static final int BAD_VALUE = NoticeShifts.BAD_VALUE;
    private static final int TOO_MANY = NoticeShifts.TOO_MANY;
    private static final int NONE = NoticeShifts.NONE;

    private static final Checks checks = new Checks();

    public static void main(String[] args) {
        ifBooked();
        ifBookedTakesTheRoomOfOthers();
        bestBreak();
        bestBreakWithFullRows();
        enough();
        enoughIsNotAlwaysTheMost();
        nothingChanges();
        checks.finish();
    }

    private static void ifBooked() {
        NoticeShifts x = new NoticeShifts();
        x.putIn(1, 10);
        checks.due("24: no notice", x.ifBooked(0, 0), NO_SUCH);
        x.notice(20, 3);
        checks.due("24: no listeners", x.ifBooked(0, 0), 10000);
        x.listener(0, 20);
        x.listener(1, 19);
        x.listener(1, 600);
        x.listener(2, 600);
        checks.due("24: two hear it", x.ifBooked(0, 0), 10040);
        checks.due("24: two hear it", x.ifBooked(1, 0), 10040);
        x.load(0, false);
        checks.due("24: without regard to files", x.ifBooked(0, 0), 10040);
        x.book(0, 0);
        checks.due("24: heard ahead of it", x.ifBooked(1, 0), 10000);
        checks.due("24: behind the same one", x.ifBooked(0, 0), 10000);
        checks.due("24: no sentence", x.ifBooked(2, 0), NO_SUCH);
        checks.due("24: no sentence", x.ifBooked(-1, 0), NO_SUCH);
        checks.due("24: no notice", x.ifBooked(0, 1), NO_SUCH);
        checks.due("24: no notice", x.ifBooked(0, -1), NO_SUCH);
        x.book(0, 0);
        x.book(0, 0);
        checks.due("24: a fourth", x.ifBooked(0, 0), 10000);
        x.book(0, 0);
        checks.due("24: a fifth", x.ifBooked(0, 0), TOO_MANY);
        checks.due("24: NO_SUCH comes first", x.ifBooked(0, 1), NO_SUCH);
    }

    /** A notice ahead can leave no room for longer ones behind it. */
    private static void ifBookedTakesTheRoomOfOthers() {
        NoticeShifts x = new NoticeShifts();
        x.notice(10, 1);
        x.notice(100, 1);
        x.putIn(1, 10);
        x.listener(0, 105);
        x.listener(0, 110);
        x.book(1, 1);
        checks.due("24: 90 less and 10 more", x.ifBooked(0, 0), 9920);
    }

    private static void bestBreak() {
        NoticeShifts x = new NoticeShifts();
        checks.due("25: no notice", x.bestBreak(0, 0), NO_SUCH);
        x.notice(10, 7);
        x.notice(20, 3);
        x.putIn(1, 10);
        x.putIn(2, 10);
        checks.due("25: no listeners: the lowest", x.bestBreak(0, 0), 0);
        checks.due("25: no listeners: none", x.bestBreak(0, 1), 0);
        x.listener(0, 600);
        x.listener(1, 600);
        x.listener(2, 600);
        checks.due("25: all alike: the lowest", x.bestBreak(0, 0), 0);
        checks.due("25: all hear it", x.bestBreak(0, 1), 3);
        x.book(0, 1);
        checks.due("25: behind another one", x.bestBreak(0, 0), 1);
        checks.due("25: all hear it", x.bestBreak(0, 1), 3);
        checks.due("25: heard anyway", x.bestBreak(1, 0), 0);
        checks.due("25: heard in any break", x.bestBreak(1, 1), 2);
        x.load(0, false);
        x.load(2, false);
        checks.due("25: without regard to files", x.bestBreak(0, 1), 3);
        checks.due("25: what 2", x.bestBreak(0, 2), BAD_VALUE);
        checks.due("25: what -1", x.bestBreak(0, -1), BAD_VALUE);
        checks.due("25: NO_SUCH comes first", x.bestBreak(2, 2), NO_SUCH);
        checks.due("25: not there", x.bestBreak(-1, 0), NO_SUCH);
    }

    private static void bestBreakWithFullRows() {
        NoticeShifts x = new NoticeShifts();
        x.notice(10, 1);
        x.notice(10, 2);
        x.putIn(1, 10);
        x.listener(0, 600);
        Checks.putAll(x, "1111");
        x.read();
        checks.due("25: the full one does not count", x.bestBreak(0, 0), 1);
        checks.due("25: the full one does not count", x.bestBreak(0, 1), 1);
        Checks.putAll(x, "1111/1110");
        x.read();
        checks.due("25: all are full", x.bestBreak(0, 0), NONE);
        checks.due("25: all are full", x.bestBreak(0, 1), NONE);
        checks.due("25: all are full, and what", x.bestBreak(0, 2), BAD_VALUE);
    }

    private static void enough() {
        NoticeShifts x = new NoticeShifts();
        checks.due("26: no listener", x.enough(0), NO_SUCH);
        x.notice(120, 1);
        x.notice(30, 3);
        x.notice(7, 1);
        x.putIn(1, 10);
        x.putIn(2, 10);
        x.listener(0, 0);
        x.listener(1, 0);
        x.listener(2, 0);
        checks.due("26: none at all", x.enough(0), 0);
        Checks.putAll(x, "0/1/2");
        x.read();
        checks.due("26: all three", x.enough(0), 157);
        checks.due("26: only one", x.enough(1), 30);
        checks.due("26: none", x.enough(2), 0);
        Checks.putAll(x, "01/1/2");
        x.read();
        checks.due("26: three with 157", x.enough(0), 157);
        Checks.putAll(x, "01/12/2");
        x.read();
        checks.due("26: another choice", x.enough(0), 157);
        Checks.putAll(x, "012/./.");
        x.read();
        checks.due("26: the least one of the row", x.enough(0), 7);
        x.load(0, false);
        Checks.putAll(x, "0/1/2");
        x.read();
        checks.due("26: without regard to a file", x.enough(0), 157);
        checks.due("26: not there", x.enough(3), NO_SUCH);
        checks.due("26: not there", x.enough(-1), NO_SUCH);
    }

    /** With less than 600 there can be more notices than with 600: just as many are asked for. */
    private static void enoughIsNotAlwaysTheMost() {
        NoticeShifts x = new NoticeShifts();
        for (int n = 0; n < 5; n++) {
            x.notice(120, 1);
        }
        x.notice(1, 1);
        x.notice(2, 1);
        x.notice(3, 1);
        for (int s = 1; s < 8; s++) {
            x.putIn(s, 10);
        }
        x.listener(0, 600);
        Checks.putAll(x, "0/1/2/3/4/5/6/7");
        x.read();
        checks.due("26: five are heard", x.of(0, 5), 5);
        checks.due("26: five with less", x.enough(0), 246);
        x.empty(7);
        x.empty(6);
        x.empty(5);
        checks.due("26: no less will do", x.enough(0), 600);
    }

    private static void nothingChanges() {
        NoticeShifts x = new NoticeShifts();
        x.notice(10, 1);
        x.notice(5, 1);
        x.listener(0, 600);
        x.book(0, 1);
        x.load(0, false);
        x.ifBooked(0, 0);
        x.bestBreak(0, 0);
        x.bestBreak(0, 1);
        x.enough(0);
        checks.due("24: the row stays", x.sentence(0, 5), 1);
        checks.due("24: the row stays", x.booked(0, 0), 1);
        checks.due("26: the bound stays", x.of(0, 1), 600);
        checks.due("25: the file is up to date", x.of(0, 3), 0);
        checks.due("24: no change", x.count(8), 5);
    }
}
