/** The sentences under 'Links', and those of the promises 18 to 23. */
final class HearingEdges extends Edges {
    HearingEdges(Document document, Checks checks) {
        super(document, checks);
    }

    @Override
    void testAll() {
        links();
        heard();
        whenHeard();
        whenHeardOutOfRange();
        heardAt();
        heardAtEachWhat();
        heardAtErrors();
        chapterAt();
        chapterAtErrors();
        open();
        openErrors();
        wrongAt();
        wrongAtByTheEpisodeOfNow();
        wrongAtErrors();
    }

    /**
     * Sentences of 10, 20 and 30 seconds, chapters at 0 and 2. The listener 0 hears 5 seconds ahead of the first
     * one and 7 ahead of the last one, the listener 1 none.
     */
    private static NoticeShifts two() {
        NoticeShifts x = sentences(10, 20, 30);
        x.chapter(2, true);
        x.notice(5, 1);
        x.notice(7, 1);
        x.listener(0, 600);
        x.listener(1, 600);
        return rows(x, "0/./1");
    }

    // ---- Links

    private void links() {
        of("Links", "A link is to a moment: a mark, and seconds in the sentence with this mark (0 to its length less 1)");
        NoticeShifts x = sentences(1, 300, 2);
        x.listener(0, 600);
        due("the only second of the first one", x.open(0, 0, 0), 0);
        due("no second one", x.open(0, 0, 1), NOT_POSSIBLE);
        due("the last second of the longest", x.open(0, 1, 299), 300);
        due("the last second of the last one", x.open(0, 2, 1), 302);
        due("none behind it", x.open(0, 2, 2), NOT_POSSIBLE);

        of("Links", "It opens for a listener at the time at which this moment comes in what the listener hears (of the"
            + " file, if there is one)");
        NoticeShifts y = two();
        due("behind the notice ahead of it", y.open(0, 0, 0), 5);
        due("behind both", y.open(0, 2, 29), 71);
        due("for another listener", y.open(1, 2, 29), 59);
        y.load(0, false);
        y.cutOut(0);
        due("of the file", y.open(0, 2, 29), 71);
        due("of now, without one", y.open(1, 2, 29), 49);
    }

    // ---- promises 18 and 19

    private void heard() {
        of("18", "Returns the notice that a listener hears ahead of a sentence");
        NoticeShifts x = two();
        due("ahead of the first one", x.heard(0, 0), 0);
        due("ahead of the last one", x.heard(0, 2), 1);

        of("18", "- `sentence`: its place in what the listener hears");
        x.load(0, false);
        x.putIn(0, 5);
        due("in the file", x.heard(0, 0), 0);
        due("no fourth one in the file", x.heard(0, 3), NO_SUCH);
        due("a fourth one of now", x.heard(1, 3), NONE);

        of("18", "Returns the notice (NONE)");
        due("none", x.heard(0, 1), NONE);
        due("the eighth notice", rows(eighth(), "7").heard(0, 0), 7);

        of("18", "NO_SUCH if there is no such listener, or no such sentence in what is heard");
        each("the listener", outside(0, 1), listener -> x.heard(listener, 0), NO_SUCH);
        each("the sentence in a file", outside(0, 2), sentence -> x.heard(0, sentence), NO_SUCH);
        each("the sentence of now", outside(0, 3), sentence -> x.heard(1, sentence), NO_SUCH);
        x.cutOut(3);
        x.cutOut(2);
        due("in the file, though cut out", x.heard(0, 2), 1);
        due("not of now", x.heard(1, 2), NO_SUCH);
        due("without listeners", new NoticeShifts().heard(0, 0), NO_SUCH);
    }

    private static NoticeShifts eighth() {
        NoticeShifts x = notices(new NoticeShifts(), 1, 1, 1, 1, 1, 1, 1, 120);
        x.listener(5, 120);
        return x;
    }

    private void whenHeard() {
        of("19", "Tells when a moment of the episode comes for a listener");
        NoticeShifts x = two();
        due("the first one", x.whenHeard(0, 0), 5);
        due("without notices", x.whenHeard(1, 59), 59);

        of("19", "Returns the time at which it is heard");
        due("the last of the first sentence", x.whenHeard(0, 9), 14);
        due("the first of the second", x.whenHeard(0, 10), 15);
        due("the last of the second", x.whenHeard(0, 29), 34);
        due("the first of the last, behind its notice", x.whenHeard(0, 30), 42);
        due("the last one", x.whenHeard(0, 59), 71);

        of("19", "- `time`: 0 to 7199, by the sentences that the listener hears");
        due("the most", full().whenHeard(5, 7199), 7799);
        due("the least", full().whenHeard(5, 0), 120);
        x.load(0, false);
        x.cutOut(2);
        due("of the file", x.whenHeard(0, 59), 71);
        due("of now", x.whenHeard(1, 59), NONE);
    }

    private void whenHeardOutOfRange() {
        of("19", "NO_SUCH if there is no such listener");
        NoticeShifts x = two();
        each("the listener", outside(0, 1), listener -> x.whenHeard(listener, 0), NO_SUCH);
        due("and no time", x.whenHeard(2, -1), NO_SUCH);

        of("19", "BAD_VALUE if time is out of range");
        each("the time", outside(0, 7199), time -> x.whenHeard(0, time), BAD_VALUE);
        NoticeShifts most = full();
        each("the time of something full", outside(0, 7199), time -> most.whenHeard(0, time), BAD_VALUE);

        of("19", "NONE if there is no such moment");
        due("behind the last one", x.whenHeard(0, 60), NONE);
        due("the most", x.whenHeard(0, 7199), NONE);
        due("the last one of a new object", withListener(new NoticeShifts()).whenHeard(0, 9), 9);
        due("behind it", withListener(new NoticeShifts()).whenHeard(0, 10), NONE);
        most.change(23, 299);
        due("the file still has it", most.whenHeard(0, 7199), 7799);
        most.load(0, false);
        due("a second less", most.whenHeard(0, 7199), NONE);
    }

    private static NoticeShifts withListener(NoticeShifts x) {
        x.listener(0, 600);
        return x;
    }

    // ---- promise 20

    private void heardAt() {
        of("20", "Tells what a listener hears at a time");
        NoticeShifts x = two();
        due("a notice", x.heardAt(0, 0, 1), 0);
        due("a sentence", x.heardAt(0, 14, 2), 0);

        of("20", "- `time`: 0 to 9999");
        due("the least", x.heardAt(1, 0, 0), 0);
        due("the most is in the range", x.heardAt(1, 9999, 0), NOT_POSSIBLE);
        NoticeShifts most = full();
        due("the last one of something full", most.heardAt(0, 7799, 0), 7199);
        due("the first one", most.heardAt(0, 0, 1), 0);
        each("the time", outside(0, 9999), time -> x.heardAt(0, time, 0), BAD_VALUE);
    }

    private void heardAtEachWhat() {
        of("20", "- `what`: 0 the time of this moment by the sentences that the listener hears (NONE if it is in a"
            + " notice), 1 the notice (NONE if it is in none), 2 the sentence: the one that is heard, or that comes"
            + " behind the notice, 3 its chapter");
        NoticeShifts x = two();
        int[] times = {0, 4, 5, 14, 15, 34, 35, 41, 42, 71};
        int[][] all = {
            {NONE, 0, 0, 0}, {NONE, 0, 0, 0}, {0, NONE, 0, 0}, {9, NONE, 0, 0}, {10, NONE, 1, 0},
            {29, NONE, 1, 0}, {NONE, 1, 2, 1}, {NONE, 1, 2, 1}, {30, NONE, 2, 1}, {59, NONE, 2, 1}};
        for (int number = 0; number < times.length; number++) {
            for (int what = 0; what < 4; what++) {
                due("heardAt(0, " + times[number] + ", " + what + ")", x.heardAt(0, times[number], what), all[number][what]);
            }
        }
        x.load(0, false);
        x.chapter(1, true);
        x.putIn(0, 50);
        due("the chapter of the file", x.heardAt(0, 71, 3), 1);
        due("the sentence of the file", x.heardAt(0, 71, 2), 2);
        due("the chapter of now", x.heardAt(1, 109, 3), 3);
        due("the sentence of now", x.heardAt(1, 109, 2), 3);

        of("20", "Returns the number");
        NoticeShifts most = full();
        due("the last chapter of something full", most.heardAt(0, 7799, 3), 23);
        due("its last sentence", most.heardAt(0, 7799, 2), 23);
    }

    private void heardAtErrors() {
        of("20", "NO_SUCH if there is no such listener");
        NoticeShifts x = two();
        each("the listener", outside(0, 1), listener -> x.heardAt(listener, 0, 0), NO_SUCH);
        due("and nothing else", x.heardAt(2, -1, -1), NO_SUCH);

        of("20", "BAD_VALUE if an argument is out of range");
        each("what", outside(0, 3), what -> x.heardAt(0, 0, what), BAD_VALUE);
        each("what when all is over", outside(0, 3), what -> x.heardAt(0, 72, what), BAD_VALUE);
        due("the time -1", x.heardAt(0, -1, 3), BAD_VALUE);
        due("the time 10000", x.heardAt(0, 10000, 3), BAD_VALUE);

        of("20", "NOT_POSSIBLE if all is over by then");
        for (int what = 0; what < 4; what++) {
            due("the first time behind", x.heardAt(0, 72, what), NOT_POSSIBLE);
            due("for the one without notices", x.heardAt(1, 60, what), NOT_POSSIBLE);
        }
        due("behind the longest", full().heardAt(0, 7800, 0), NOT_POSSIBLE);
        x.load(0, false);
        x.cutOut(2);
        due("the file goes on", x.heardAt(0, 71, 0), 59);
        due("that of now does not", x.heardAt(1, 30, 0), NOT_POSSIBLE);
    }

    // ---- promise 21

    private void chapterAt() {
        of("21", "Tells where a chapter begins for a listener: with the notice ahead of its first sentence, if one is"
            + " heard there");
        NoticeShifts x = two();
        due("with the notice", x.chapterAt(0, 1), 35);
        due("without one", x.chapterAt(1, 1), 30);
        due("the first one", x.chapterAt(0, 0), 0);
        x.load(0, false);
        x.chapter(1, true);
        due("of the file", x.chapterAt(0, 1), 35);
        due("of now", x.chapterAt(1, 1), 10);

        of("21", "Returns the time");
        NoticeShifts most = full();
        for (int chapter = 0; chapter < 24; chapter++) {
            due("the chapter " + chapter, most.chapterAt(3, chapter), chapter * 300 + Math.min(chapter, 5) * 120);
        }
    }

    private void chapterAtErrors() {
        of("21", "NO_SUCH if there is no such listener, or no such chapter in what is heard");
        NoticeShifts x = two();
        each("the listener", outside(0, 1), listener -> x.chapterAt(listener, 0), NO_SUCH);
        each("the chapter", outside(0, 1), chapter -> x.chapterAt(0, chapter), NO_SUCH);
        x.load(0, false);
        x.chapter(1, true);
        due("a third one of now alone", x.chapterAt(0, 2), NO_SUCH);
        due("a third one of now", x.chapterAt(1, 2), 30);
        x.chapter(1, false);
        x.chapter(2, false);
        due("a second one of the file alone", x.chapterAt(0, 1), 35);
        due("no second one of now", x.chapterAt(1, 1), NO_SUCH);
        due("the 25th of 24", full().chapterAt(0, 24), NO_SUCH);
    }

    // ---- promise 22

    private void open() {
        of("22", "Opens a link for a listener");
        NoticeShifts x = two();
        due("in the first sentence", x.open(0, 0, 3), 8);

        of("22", "- `mark`: of the sentence");
        x.putIn(0, 40);
        x.listener(0, 0);
        due("not its place", x.open(1, 0, 0), 40);
        due("the last mark", x.open(1, 3, 0), 0);

        of("22", "- `seconds`: 0 to 299");
        due("the least", full().open(0, 23, 0), 7500);
        due("the most", full().open(0, 23, 299), 7799);
        each("the seconds", outside(0, 299), seconds -> x.open(0, 0, seconds), BAD_VALUE);

        of("22", "Returns the time");
        due("the last second of all", x.open(0, 2, 29), 111);
        due("without notices", x.open(2, 2, 29), 99);
    }

    private void openErrors() {
        of("22", "NO_SUCH if there is no such listener");
        NoticeShifts x = two();
        each("the listener", outside(0, 1), listener -> x.open(listener, 0, 0), NO_SUCH);
        due("and nothing else", x.open(2, 3, 300), NO_SUCH);

        of("22", "BAD_VALUE if seconds is out of range");
        due("300", x.open(0, 0, 300), BAD_VALUE);
        due("-1", x.open(0, 0, -1), BAD_VALUE);
        due("and no mark", x.open(0, 3, 300), BAD_VALUE);

        of("22", "NOT_POSSIBLE if the listener hears no sentence with this mark, or it is not so long");
        each("the mark", outside(0, 2), mark -> x.open(0, mark, 0), NOT_POSSIBLE);
        due("the last second", x.open(0, 1, 19), 34);
        due("a second more", x.open(0, 1, 20), NOT_POSSIBLE);
        x.load(0, false);
        x.change(1, 21);
        due("longer now, but not in the file", x.open(0, 1, 20), NOT_POSSIBLE);
        due("longer now", x.open(1, 1, 20), 30);
        x.change(1, 19);
        due("shorter now, but not in the file", x.open(0, 1, 19), 34);
        due("shorter now", x.open(1, 1, 19), NOT_POSSIBLE);
        x.putIn(3, 5);
        due("put in behind the file", x.open(0, 3, 0), NOT_POSSIBLE);
        due("put in", x.open(1, 3, 0), 59);
        x.cutOut(0);
        due("cut out behind the file", x.open(0, 0, 0), 5);
        due("cut out", x.open(1, 0, 0), NOT_POSSIBLE);
    }

    // ---- promise 23

    private void wrongAt() {
        of("23", "Tells by how much a link would be wrong that a listener made from the time alone at which something"
            + " is heard, if another listener opened it at the same time");
        NoticeShifts x = two();
        due("5 seconds of a notice", x.wrongAt(0, 1, 10), 5);
        due("the same listener", x.wrongAt(1, 1, 10), 0);

        of("23", "Returns by how many seconds, without signs, the moment that the other one hears then is away from that"
            + " which the first one hears");
        due("12 seconds of two notices", x.wrongAt(0, 1, 50), 12);
        due("the other way round", x.wrongAt(1, 0, 50), 12);

        of("23", "a notice counting as the first moment of the sentence behind it");
        due("at first", x.wrongAt(0, 1, 0), 0);
        due("at the end of the notice", x.wrongAt(0, 1, 4), 4);
        due("behind the notice", x.wrongAt(0, 1, 5), 5);
        due("in the second notice", x.wrongAt(0, 1, 35), 5);
        due("at its end", x.wrongAt(0, 1, 41), 11);
        due("behind it", x.wrongAt(0, 1, 42), 12);

        of("23", "- `time`: 0 to 9999");
        due("the least", x.wrongAt(1, 0, 0), 0);
        due("the last one for both", x.wrongAt(1, 0, 59), 12);
        due("the most is in the range", x.wrongAt(1, 0, 9999), NOT_POSSIBLE);
        due("the last one of something full", full().wrongAt(0, 5, 7799), 0);
    }

    private void wrongAtByTheEpisodeOfNow() {
        of("23", "both by the time of the episode of now (the time of their sentences with their marks, and the seconds"
            + " in these)");
        NoticeShifts x = two();
        x.load(0, false);
        x.load(1, false);
        x.change(0, 300);
        due("the same sentence", x.wrongAt(0, 1, 9), 5);
        due("the one ahead, which is longer now", x.wrongAt(0, 1, 12), 295);
        x.putIn(1, 100);
        due("a sentence between them that both do not hear", x.wrongAt(0, 1, 12), 395);
        x.putIn(0, 7);
        due("a sentence ahead of both", x.wrongAt(0, 1, 12), 395);
        x.cutOut(4);
        x.putIn(0, 30);
        due("the sentence of the last one, cut out", x.wrongAt(0, 1, 34), NOT_POSSIBLE);
        due("the same sentence, all others having moved", x.wrongAt(0, 1, 29), 5);
        NoticeShifts y = two();
        y.load(0, false);
        y.change(0, 1);
        due("seconds that the sentence does not have any more", y.wrongAt(0, 1, 14), 5);
        due("a notice is the first moment of now", y.wrongAt(0, 1, 35), 14);
    }

    private void wrongAtErrors() {
        of("23", "NO_SUCH if there is no such listener");
        NoticeShifts x = two();
        each("the one", outside(0, 1), listener -> x.wrongAt(listener, 0, 0), NO_SUCH);
        each("the other one", outside(0, 1), other -> x.wrongAt(0, other, 0), NO_SUCH);
        each("both", outside(0, 1), both -> x.wrongAt(both, both, -1), NO_SUCH);

        of("23", "BAD_VALUE if time is out of range");
        each("the time", outside(0, 9999), time -> x.wrongAt(0, 1, time), BAD_VALUE);

        of("23", "NOT_POSSIBLE if all is over by then for one of them, or a sentence is not in the episode of now");
        due("over for the other one", x.wrongAt(0, 1, 60), NOT_POSSIBLE);
        due("over for the one", x.wrongAt(1, 0, 60), NOT_POSSIBLE);
        due("the last one before that", x.wrongAt(0, 1, 59), 12);
        due("over for both", x.wrongAt(0, 0, 72), NOT_POSSIBLE);
        due("the last one for the one with notices", x.wrongAt(0, 0, 71), 0);
        x.load(0, false);
        x.cutOut(0);
        due("in the notice ahead of a sentence that is cut out", x.wrongAt(0, 1, 0), NOT_POSSIBLE);
        due("the other one", x.wrongAt(1, 0, 14), NOT_POSSIBLE);
        due("both the same", x.wrongAt(0, 0, 14), NOT_POSSIBLE);
        due("a sentence that is there", x.wrongAt(0, 1, 15), 15);
        due("one that is not, and all over", x.wrongAt(1, 0, 9999), NOT_POSSIBLE);
    }
}
