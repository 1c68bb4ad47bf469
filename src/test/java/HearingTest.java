/** Promises 18 to 23: what is heard. */
public final class HearingTest {
    private static final int NO_SUCH = NoticeShifts.NO_SUCH;
    private static final int BAD_VALUE = NoticeShifts.BAD_VALUE;
    private static final int NOT_POSSIBLE = NoticeShifts.NOT_POSSIBLE;
    private static final int NONE = NoticeShifts.NONE;

    private static final Checks checks = new Checks();

    public static void main(String[] args) {
        heard();
        heardWithinTheBound();
        heardOfAFile();
        whenHeard();
        heardAt();
        chapterAt();
        open();
        wrongAt();
        wrongAtWithFiles();
        longestEpisode();
        checks.finish();
    }

    /**
     * Sentences of 10, 5 and 20 seconds, the marks 0, 2 and 1, chapters at 0 and at 2. The listener
     * 0 hears 15 seconds ahead of the sentence 0 and 8 ahead of the sentence 2, the listener 1 hears
     * 8 ahead of the sentence 0, the listener 2 none.
     */
    private static NoticeShifts three() {
        NoticeShifts x = new NoticeShifts();
        x.putIn(1, 20);
        x.putIn(1, 5);
        x.chapter(2, true);
        x.notice(15, 1);
        x.notice(8, 3);
        x.listener(0, 30);
        x.listener(1, 30);
        x.listener(2, 600);
        Checks.putAll(x, "01/0/1");
        x.read();
        return x;
    }

    private static void heard() {
        NoticeShifts x = three();
        int[][] due = {{0, NONE, 1}, {1, NONE, NONE}, {NONE, NONE, NONE}};
        for (int l = 0; l < 3; l++) {
            for (int s = 0; s < 3; s++) {
                checks.due("18: heard(" + l + ", " + s + ")", x.heard(l, s), due[l][s]);
            }
        }
        checks.due("18: no sentence", x.heard(0, 3), NO_SUCH);
        checks.due("18: no sentence", x.heard(0, -1), NO_SUCH);
        checks.due("18: no listener", x.heard(3, 0), NO_SUCH);
        checks.due("18: no listener", x.heard(-1, 0), NO_SUCH);
    }

    private static void heardWithinTheBound() {
        NoticeShifts x = new NoticeShifts();
        x.notice(100, 63);
        x.notice(10, 63);
        x.notice(11, 63);
        x.putIn(1, 10);
        x.putIn(2, 10);
        x.putIn(3, 10);
        x.listener(0, 110);
        x.listener(5, 21);
        x.listener(5, 20);
        Checks.putAll(x, "0/021/2/1");
        x.read();
        int[][] due = {{0, 1, NONE, NONE}, {NONE, 2, NONE, 1}, {NONE, 2, NONE, NONE}};
        for (int l = 0; l < 3; l++) {
            for (int s = 0; s < 4; s++) {
                checks.due("18: bound heard(" + l + ", " + s + ")", x.heard(l, s), due[l][s]);
            }
        }
    }

    private static void heardOfAFile() {
        NoticeShifts x = three();
        x.load(0, false);
        x.cutOut(0);
        checks.due("18: of the file", x.heard(0, 2), 1);
        checks.due("18: of now", x.heard(1, 1), 1);
        checks.due("18: of now", x.heard(1, 2), NO_SUCH);
        x.load(0, true);
        checks.due("18: thrown away", x.heard(0, 0), 0);
        checks.due("18: thrown away", x.heard(0, 2), NO_SUCH);
    }

    private static void whenHeard() {
        NoticeShifts x = three();
        int[] times = {0, 9, 10, 14, 15, 34};
        int[] first = {15, 24, 25, 29, 38, 57};
        for (int i = 0; i < times.length; i++) {
            checks.due("19: whenHeard(0, " + times[i] + ")", x.whenHeard(0, times[i]), first[i]);
            checks.due("19: whenHeard(1, " + times[i] + ")", x.whenHeard(1, times[i]), times[i] + 8);
            checks.due("19: whenHeard(2, " + times[i] + ")", x.whenHeard(2, times[i]), times[i]);
        }
        checks.due("19: no such moment", x.whenHeard(0, 35), NONE);
        checks.due("19: no such moment", x.whenHeard(0, 7199), NONE);
        checks.due("19: time 7200", x.whenHeard(0, 7200), BAD_VALUE);
        checks.due("19: time -1", x.whenHeard(0, -1), BAD_VALUE);
        checks.due("19: NO_SUCH comes first", x.whenHeard(3, -1), NO_SUCH);
        checks.due("19: no listener", x.whenHeard(-1, 0), NO_SUCH);
        x.load(0, false);
        x.change(0, 300);
        checks.due("19: by the sentences of the file", x.whenHeard(0, 34), 57);
        checks.due("19: by the sentences of the file", x.whenHeard(0, 35), NONE);
        checks.due("19: of now", x.whenHeard(1, 35), 43);
        x.cutOut(2);
        checks.due("19: of now, a sentence less", x.whenHeard(1, 304), 312);
        checks.due("19: of now, a sentence less", x.whenHeard(1, 305), NONE);
    }

    private static void heardAt() {
        NoticeShifts x = three();
        int[] times = {0, 14, 15, 24, 25, 29, 30, 37, 38, 57};
        int[][] due = {
            {NONE, 0, 0, 0}, {NONE, 0, 0, 0}, {0, NONE, 0, 0}, {9, NONE, 0, 0}, {10, NONE, 1, 0},
            {14, NONE, 1, 0}, {NONE, 1, 2, 1}, {NONE, 1, 2, 1}, {15, NONE, 2, 1}, {34, NONE, 2, 1}};
        for (int i = 0; i < times.length; i++) {
            for (int what = 0; what < 4; what++) {
                checks.due("20: heardAt(0, " + times[i] + ", " + what + ")", x.heardAt(0, times[i], what), due[i][what]);
            }
        }
        for (int what = 0; what < 4; what++) {
            checks.due("20: all is over", x.heardAt(0, 58, what), NOT_POSSIBLE);
            checks.due("20: all is over", x.heardAt(2, 35, what), NOT_POSSIBLE);
        }
        checks.due("20: time 9999", x.heardAt(0, 9999, 0), NOT_POSSIBLE);
        checks.due("20: time 10000", x.heardAt(0, 10000, 0), BAD_VALUE);
        checks.due("20: time -1", x.heardAt(0, -1, 0), BAD_VALUE);
        checks.due("20: what 4", x.heardAt(0, 0, 4), BAD_VALUE);
        checks.due("20: what -1", x.heardAt(0, 0, -1), BAD_VALUE);
        checks.due("20: BAD_VALUE ahead of NOT_POSSIBLE", x.heardAt(0, 58, 4), BAD_VALUE);
        checks.due("20: NO_SUCH comes first", x.heardAt(3, -1, 4), NO_SUCH);
        checks.due("20: no listener", x.heardAt(-1, 0, 0), NO_SUCH);
        x.load(0, false);
        x.chapter(2, false);
        x.empty(0);
        checks.due("20: the notice of the file", x.heardAt(0, 14, 1), 0);
        checks.due("20: the chapter of the file", x.heardAt(0, 38, 3), 1);
        checks.due("20: the chapter of now", x.heardAt(1, 30, 3), 0);
    }

    private static void chapterAt() {
        NoticeShifts x = three();
        int[] second = {30, 23, 15};
        for (int l = 0; l < 3; l++) {
            checks.due("21: chapterAt(" + l + ", 0)", x.chapterAt(l, 0), 0);
            checks.due("21: chapterAt(" + l + ", 1)", x.chapterAt(l, 1), second[l]);
            checks.due("21: no chapter", x.chapterAt(l, 2), NO_SUCH);
        }
        checks.due("21: no chapter", x.chapterAt(0, -1), NO_SUCH);
        checks.due("21: no listener", x.chapterAt(3, 0), NO_SUCH);
        checks.due("21: no listener", x.chapterAt(-1, 0), NO_SUCH);
        x.load(0, false);
        x.chapter(1, true);
        checks.due("21: of the file", x.chapterAt(0, 1), 30);
        checks.due("21: of the file", x.chapterAt(0, 2), NO_SUCH);
        checks.due("21: of now", x.chapterAt(1, 1), 18);
        checks.due("21: of now", x.chapterAt(1, 2), 23);
    }

    private static void open() {
        NoticeShifts x = three();
        checks.due("22: mark 0", x.open(0, 0, 0), 15);
        checks.due("22: mark 0", x.open(0, 0, 9), 24);
        checks.due("22: mark 1", x.open(0, 1, 19), 57);
        checks.due("22: mark 1 behind its notice", x.open(0, 1, 0), 38);
        checks.due("22: mark 2", x.open(1, 2, 4), 22);
        checks.due("22: not so long", x.open(0, 0, 10), NOT_POSSIBLE);
        checks.due("22: no mark", x.open(0, 3, 0), NOT_POSSIBLE);
        checks.due("22: no mark", x.open(0, -1, 0), NOT_POSSIBLE);
        checks.due("22: seconds 299", x.open(0, 0, 299), NOT_POSSIBLE);
        checks.due("22: seconds 300", x.open(0, 0, 300), BAD_VALUE);
        checks.due("22: seconds -1", x.open(0, 0, -1), BAD_VALUE);
        checks.due("22: BAD_VALUE ahead of NOT_POSSIBLE", x.open(0, 3, 300), BAD_VALUE);
        checks.due("22: NO_SUCH comes first", x.open(3, 0, 300), NO_SUCH);
        checks.due("22: no listener", x.open(-1, 0, 0), NO_SUCH);
        x.load(0, false);
        x.cutOut(2);
        x.change(0, 300);
        checks.due("22: of the file", x.open(0, 1, 19), 57);
        checks.due("22: of the file", x.open(0, 0, 10), NOT_POSSIBLE);
        checks.due("22: of now", x.open(1, 1, 0), NOT_POSSIBLE);
        checks.due("22: of now", x.open(1, 0, 299), 307);
    }

    private static void wrongAt() {
        NoticeShifts x = three();
        checks.due("23: in the notices of both", x.wrongAt(0, 1, 3), 0);
        checks.due("23: at the time 0", x.wrongAt(0, 1, 0), 0);
        checks.due("23: a notice counts as the first moment behind it", x.wrongAt(0, 2, 0), 0);
        checks.due("23: a notice counts as the first moment behind it", x.wrongAt(0, 2, 9), 9);
        checks.due("23: in a notice of the one", x.wrongAt(0, 1, 14), 6);
        checks.due("23: without signs", x.wrongAt(1, 0, 14), 6);
        checks.due("23: in a notice of the sentence 2", x.wrongAt(0, 1, 37), 14);
        checks.due("23: in no notice", x.wrongAt(0, 2, 29), 15);
        checks.due("23: with itself", x.wrongAt(0, 0, 20), 0);
        checks.due("23: over for the other one", x.wrongAt(0, 2, 35), NOT_POSSIBLE);
        checks.due("23: over for the one", x.wrongAt(2, 0, 35), NOT_POSSIBLE);
        checks.due("23: time 9999", x.wrongAt(0, 1, 9999), NOT_POSSIBLE);
        checks.due("23: time 10000", x.wrongAt(0, 1, 10000), BAD_VALUE);
        checks.due("23: time -1", x.wrongAt(0, 1, -1), BAD_VALUE);
        checks.due("23: NO_SUCH comes first", x.wrongAt(0, 3, -1), NO_SUCH);
        checks.due("23: no listener", x.wrongAt(3, 0, 0), NO_SUCH);
        checks.due("23: no listener", x.wrongAt(-1, 0, 0), NO_SUCH);
        checks.due("23: no listener", x.wrongAt(0, -1, 0), NO_SUCH);
    }

    private static void wrongAtWithFiles() {
        NoticeShifts x = three();
        x.load(0, false);
        x.putIn(0, 100);
        checks.due("23: by the time of the episode of now", x.wrongAt(0, 2, 20), 85);
        x.change(1, 1);
        checks.due("23: the seconds in a sentence that has become shorter", x.wrongAt(0, 2, 24), 85);
        x.cutOut(1);
        checks.due("23: the sentence is not there any more", x.wrongAt(0, 2, 24), NOT_POSSIBLE);
        checks.due("23: the sentence is not there any more", x.wrongAt(2, 0, 14), NOT_POSSIBLE);
        checks.due("23: the next one is there", x.wrongAt(0, 2, 25), 75);
        checks.due("23: the next one is there", x.wrongAt(2, 0, 25), 75);
    }

    /** Times up to the limits that the document names. */
    private static void longestEpisode() {
        NoticeShifts x = new NoticeShifts();
        x.change(0, 300);
        for (int s = 1; s < 24; s++) {
            x.putIn(s, 300);
            x.chapter(s, true);
        }
        x.listener(0, 600);
        for (int n = 0; n < 8; n++) {
            x.notice(n < 5 ? 120 : 1, 1);
            x.book(n, n);
        }
        checks.due("16: 7800 seconds", x.of(0, 4), 7800);
        checks.due("16: 600 of notices", x.of(0, 6), 600);
        checks.due("19: the last moment", x.whenHeard(0, 7199), 7799);
        checks.due("20: the last moment", x.heardAt(0, 7799, 0), 7199);
        checks.due("20: it is over", x.heardAt(0, 7800, 0), NOT_POSSIBLE);
        checks.due("21: the last chapter", x.chapterAt(0, 23), 7500);
        checks.due("20: the last chapter", x.heardAt(0, 7799, 3), 23);
        checks.due("22: the last moment", x.open(0, 23, 299), 7799);
    }
}
