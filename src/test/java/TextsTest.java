/** Promises 9 and 27 to 29: texts. */
public final class TextsTest {
    private static final int NO_SUCH = NoticeShifts.NO_SUCH;
    private static final int BAD_VALUE = NoticeShifts.BAD_VALUE;
    private static final int BAD_TEXT = NoticeShifts.BAD_TEXT;
    private static final int TOO_MANY = NoticeShifts.TOO_MANY;
    private static final int NONE = NoticeShifts.NONE;

    private static final Checks checks = new Checks();

    public static void main(String[] args) {
        put();
        putInBadForm();
        putTooMany();
        wipe();
        fault();
        faultBehindManyRows();
        read();
        readWithErrors();
        readAndUndo();
        readBehindAWipe();
        readAFullPad();
        checks.finish();
    }

    private static void put() {
        NoticeShifts x = new NoticeShifts();
        checks.due("27: one", x.put('0'), 1);
        checks.due("27: eight", x.put(Checks.packed("1/2/3/4/")), 9);
        checks.due("27: in their order", x.fault(), 9);
        x.wipe();
        checks.due("27: in their order", x.put(Checks.packed("01/.")), 4);
        checks.due("27: behind those that are there", x.put(Checks.packed("/2")), 6);
        checks.due("29: all is well", x.fault(), NONE);
        checks.due("27: 33", x.put(33), 7);
        checks.due("27: 126", x.put(126), 8);
        checks.due("17: length of the pad", x.count(7), 8);
        checks.due("27: no change", x.count(8), 0);
    }

    private static void putInBadForm() {
        NoticeShifts x = new NoticeShifts();
        long[] bad = {
            0, 32, 127, 128, 255, -1, Long.MIN_VALUE, Long.MAX_VALUE, 256, 0x3000L, 0x300030L, 0x30000030L,
            0x3000000000000030L, 0x2030L, 0x3020L, 0x7F30L, 0x307FL, 0x30L << 56, 0x8030303030303030L,
            0x1F30303030303030L, 0x3030303030303020L, 0x0100000000000030L, 0x8000000000000030L};
        for (long number : bad) {
            checks.due("27: put(" + number + ")", x.put(number), BAD_VALUE);
        }
        checks.due("27: nothing was put", x.count(7), 0);
        checks.due("27: the most", x.put(0x7E7E7E7E7E7E7E7EL), 8);
        checks.due("27: the least", x.put(0x2121212121212121L), 16);
    }

    private static void putTooMany() {
        NoticeShifts x = new NoticeShifts();
        Checks.putAll(x, "0".repeat(56));
        checks.due("27: 61", x.put(Checks.packed("00000")), TOO_MANY);
        checks.due("27: BAD_VALUE comes first", x.put(0x20L << 32 | 0x30303030L), BAD_VALUE);
        checks.due("27: nothing was put", x.count(7), 56);
        checks.due("27: 60", x.put(Checks.packed("0000")), 60);
        checks.due("27: 61", x.put('0'), TOO_MANY);
        checks.due("27: BAD_VALUE comes first", x.put(0), BAD_VALUE);
        checks.due("27: 60 stay", x.count(7), 60);
    }

    private static void wipe() {
        NoticeShifts x = new NoticeShifts();
        checks.due("28: empty", x.wipe(), 0);
        x.put(Checks.packed("0/1"));
        checks.due("28: three", x.wipe(), 3);
        checks.due("28: empty then", x.count(7), 0);
        checks.due("28: empty then", x.wipe(), 0);
        checks.due("28: no change", x.count(8), 0);
        checks.due("29: the fault of the empty pad", x.fault(), 0);
    }

    private static void fault() {
        Object[][] due = {
            {".", NONE}, {"0", NONE}, {"7", NONE}, {"0000", NONE}, {"./.", NONE}, {"01/23/4567/.", NONE},
            {"8", 0}, {"9", 0}, {"/", 0}, {"!", 0}, {"~", 0}, {"-", 0}, {"a", 0},
            {"..", 1}, {".0", 1}, {"0.", 1}, {"08", 1}, {"0!", 1}, {".!", 1}, {"00000", 4}, {"1234/56701", 9},
            {"0000.", 4}, {"0000/", 5}, {"./", 2}, {"0/", 2}, {"0//0", 2}, {"//", 0}, {"./.8", 3},
            {"0/1/2/3/", 8}, {"0/1/2/3/x0", 8}, {"0000/0000/0000/00008", 19}};
        for (Object[] row : due) {
            NoticeShifts x = new NoticeShifts();
            Checks.putAll(x, (String) row[0]);
            checks.due("29: fault of " + row[0], x.fault(), (Integer) row[1]);
        }
    }

    private static void faultBehindManyRows() {
        NoticeShifts x = new NoticeShifts();
        Checks.putAll(x, "./".repeat(23));
        checks.due("29: the text ends too early", x.fault(), 46);
        x.put('.');
        checks.due("29: 24 rows", x.fault(), NONE);
        x.put('/');
        checks.due("29: the / behind the 24th row", x.fault(), 47);
        x.put('.');
        checks.due("29: the / behind the 24th row", x.fault(), 47);
        x.wipe();
        Checks.putAll(x, "0/".repeat(23) + "0123");
        checks.due("29: the 24th row is long", x.fault(), NONE);
    }

    private static void read() {
        NoticeShifts x = new NoticeShifts();
        for (int n = 0; n < 8; n++) {
            x.notice(n + 1, 63);
        }
        for (int s = 1; s < 24; s++) {
            x.putIn(s, 5);
        }
        x.book(0, 0);
        x.book(1, 1);
        x.book(2, 2);
        Checks.putAll(x, "7654/.");
        checks.due("9: two rows", x.read(), 2);
        checks.due("9: the pad is empty", x.count(7), 0);
        checks.due("9: row 0", x.sentence(0, 5), 4);
        checks.due("9: row 1", x.sentence(1, 5), 0);
        checks.due("9: the row 2 stays", x.sentence(2, 5), 1);
        checks.due("9: the row 2 stays", x.booked(2, 0), 2);
        for (int place = 0; place < 4; place++) {
            checks.due("9: row 0 at " + place, x.booked(0, place), 7 - place);
        }
        Checks.putAll(x, "./".repeat(22) + "3/45");
        checks.due("9: 24 rows", x.read(), 24);
        checks.due("9: row 0", x.sentence(0, 5), 0);
        checks.due("9: row 22", x.booked(22, 0), 3);
        checks.due("9: row 23", x.booked(23, 1), 5);
    }

    private static void readWithErrors() {
        NoticeShifts x = new NoticeShifts();
        x.notice(5, 1);
        checks.due("9: an empty pad", x.read(), BAD_TEXT);
        Checks.putAll(x, "0/9");
        checks.due("9: BAD_TEXT comes first", x.read(), BAD_TEXT);
        checks.due("9: the pad stays", x.wipe(), 3);
        Checks.putAll(x, "0/");
        checks.due("9: ends too early", x.read(), BAD_TEXT);
        x.wipe();
        Checks.putAll(x, "0/.");
        checks.due("9: no such sentence", x.read(), NO_SUCH);
        checks.due("9: the pad stays", x.wipe(), 3);
        Checks.putAll(x, "01");
        checks.due("9: no such notice", x.read(), NO_SUCH);
        checks.due("9: nothing was taken", x.sentence(0, 5), 0);
        x.wipe();
        Checks.putAll(x, "10");
        checks.due("9: no such notice", x.read(), NO_SUCH);
        checks.due("9: no error recorded", x.count(8), 1);
        x.notice(6, 1);
        checks.due("9: now there is one", x.read(), 1);
        checks.due("9: taken", x.sentence(0, 5), 2);
        x.undo();
        x.undo();
        Checks.putAll(x, ".");
        checks.due("9: an empty row", x.read(), 1);
    }

    private static void readBehindAWipe() {
        NoticeShifts x = new NoticeShifts();
        x.notice(5, 1);
        Checks.putAll(x, "07");
        x.wipe();
        x.put('0');
        checks.due("28: nothing is left of the 7", x.read(), 1);
        checks.due("28: nothing is left of the 7", x.sentence(0, 5), 1);
        x.notice(6, 1);
        Checks.putAll(x, "01");
        x.wipe();
        x.put('0');
        x.read();
        checks.due("28: nothing is left of the 1", x.sentence(0, 5), 1);
    }

    private static void readAFullPad() {
        NoticeShifts x = new NoticeShifts();
        x.notice(5, 1);
        for (int s = 1; s < 13; s++) {
            x.putIn(s, 5);
        }
        checks.due("27: 60", Checks.putAll(x, "0000/".repeat(9) + "000/000/000/000"), 60);
        checks.due("9: thirteen rows", x.read(), 13);
        checks.due("9: a row of 4", x.sentence(8, 5), 4);
        checks.due("9: a row of 3", x.sentence(12, 5), 3);
    }

    private static void readAndUndo() {
        NoticeShifts x = new NoticeShifts();
        x.notice(5, 1);
        x.book(0, 0);
        Checks.putAll(x, "00");
        x.read();
        checks.due("9: is a change", x.count(8), 3);
        checks.due("30: undone", x.undo(), 2);
        checks.due("30: the row of before", x.sentence(0, 5), 1);
        checks.due("30: the pad stays empty", x.count(7), 0);
    }
}
