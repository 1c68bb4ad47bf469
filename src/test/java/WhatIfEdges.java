/** The sentences of the promises 24 to 26. */
final class WhatIfEdges extends Edges {
    WhatIfEdges(Document document, Checks checks) {
        super(document, checks);
    }

    @Override
    void testAll() {
        ifBooked();
        ifBookedErrors();
        bestBreak();
        bestBreakOfSeveral();
        bestBreakErrors();
        enough();
        enoughWithMoreForLess();
        enoughErrors();
    }

    // ---- promise 24

    private void ifBooked() {
        of("24", "Tells how much longer all listeners together would hear, if a notice was put at the end of the row of"
            + " a break (without regard to files)");
        NoticeShifts x = notices(sentences(10, 10), 20, 30);
        x.listener(0, 20);
        x.listener(1, 30);
        x.listener(2, 600);
        x.load(2, false);
        due("all three hear it, the one with a file, too", x.ifBooked(0, 0), 10060);
        x.book(0, 1);
        due("at the end of the row: those hear it who have no room for the first", x.ifBooked(0, 0), 10020);
        due("ahead of the next sentence: and one who has room for both", x.ifBooked(1, 0), 10040);
        due("one that is heard ahead", x.ifBooked(1, 1), 10000);
        due("nothing has changed", x.sentence(1, 5), 0);

        of("24", "Returns the seconds, and 10000");
        due("without listeners", notices(new NoticeShifts(), 120).ifBooked(0, 0), 10000);
        due("the most: 6 with 120", sixListeners(120).ifBooked(0, 0), 10720);
        NoticeShifts less = notices(sentences(10, 10), 1, 120);
        for (int number = 0; number < 6; number++) {
            less.listener(number, 120);
        }
        less.book(1, 1);
        due("less: 6 without 120, and with 1", less.ifBooked(0, 0), 10000 - 6 * 119);
    }

    private static NoticeShifts sixListeners(int bound) {
        NoticeShifts x = notices(new NoticeShifts(), 120);
        for (int number = 0; number < 6; number++) {
            x.listener(number, bound);
        }
        return x;
    }

    private void ifBookedErrors() {
        of("24", "NO_SUCH if there is no such sentence or notice");
        NoticeShifts x = small();
        each("the sentence", outside(0, 2), sentence -> x.ifBooked(sentence, 0), NO_SUCH);
        each("the notice", outside(0, 1), notice -> x.ifBooked(0, notice), NO_SUCH);
        due("no notice at all", new NoticeShifts().ifBooked(0, 0), NO_SUCH);

        of("24", "TOO_MANY if the row has 4");
        x.book(1, 0);
        due("three", x.ifBooked(1, 0), 10000);
        x.book(1, 0);
        due("four", x.ifBooked(1, 0), TOO_MANY);
        due("four, and no notice", x.ifBooked(1, 2), NO_SUCH);
        due("another row", x.ifBooked(2, 0), 10000);
    }

    // ---- promise 25

    private void bestBreak() {
        of("25", "Finds the break with which, a notice put at the end of its row, the most listeners would hear this"
            + " notice (in any break");
        NoticeShifts x = notices(sentencesOf(3, 5), 10, 20);
        x.listener(0, 600);
        x.listener(1, 20);
        x.listener(2, 10);
        rows(x, "1/./.");
        due("where the one who hears both has room", x.bestBreak(0, 0), 1);
        due("that one, and the one who has no room for 20", x.bestBreak(0, 1), 2);
        rows(x, "1/./0");
        due("heard in the last break by two anyway", x.bestBreak(0, 1), 2);
        due("in the first break by the one with no room for 20, so the lowest", x.bestBreak(0, 0), 0);

        of("25", "without regard to files");
        NoticeShifts y = notices(sentences(5), 10, 10);
        y.listener(0, 600);
        y.load(0, false);
        due("one who does not hear it in the file", y.bestBreak(0, 1), 1);
        rows(y, "0");
        y.load(0, false);
        rows(y, "1");
        due("one who hears it in the file alone", y.bestBreak(0, 1), 0);
    }

    private void bestBreakOfSeveral() {
        of("25", "of several the lowest one");
        NoticeShifts x = notices(sentencesOf(24, 5), 10);
        due("without listeners", x.bestBreak(0, 0), 0);
        due("nobody hears it", x.bestBreak(0, 1), 0);
        x.listener(0, 9);
        due("with one who can't hear it", x.bestBreak(0, 0), 0);
        due("nobody hears it", x.bestBreak(0, 1), 0);
        x.listener(0, 10);
        due("all alike", x.bestBreak(0, 0), 0);
        due("one hears it", x.bestBreak(0, 1), 1);

        of("25", "Breaks with 4 in their row do not count");
        rows(x, "0000");
        due("the next one", x.bestBreak(0, 0), 1);
        due("heard there, where it does not count", x.bestBreak(0, 1), 1);
        NoticeShifts most = full();
        most.empty(23);
        due("the last one alone", most.bestBreak(0, 0), 23);
        due("all hear it in the first one", most.bestBreak(0, 1), 6);
        due("none of them has room", most.bestBreak(7, 1), 0);
    }

    private void bestBreakErrors() {
        NoticeShifts x = small();
        of("25", "- `what`: 0 the sentence, 1 how many hear it in all then");
        due("the sentence", x.bestBreak(0, 0), 0);
        due("how many", x.bestBreak(0, 1), 2);

        of("25", "Returns the number");
        NoticeShifts most = sixListeners(120);
        due("all six", most.bestBreak(0, 1), 6);
        due("the only sentence", most.bestBreak(0, 0), 0);

        of("25", "NO_SUCH if there is no such notice");
        each("the notice", outside(0, 1), notice -> x.bestBreak(notice, 0), NO_SUCH);
        each("the notice, and what", outside(0, 1), notice -> x.bestBreak(notice, 2), NO_SUCH);

        of("25", "BAD_VALUE if what is neither 0 nor 1");
        each("what", outside(0, 1), what -> x.bestBreak(1, what), BAD_VALUE);

        of("25", "NONE if all rows have 4");
        due("the sentence", full().bestBreak(0, 0), NONE);
        due("how many", full().bestBreak(0, 1), NONE);
        NoticeShifts one = rows(notices(new NoticeShifts(), 5), "000");
        due("three", one.bestBreak(0, 0), 0);
        one.book(0, 0);
        due("four", one.bestBreak(0, 0), NONE);
        one.putIn(1, 5);
        due("a sentence more", one.bestBreak(0, 0), 1);
    }

    // ---- promise 26

    private void enough() {
        of("26", "Tells the least bound, 0 to 600, with which a listener would hear just as many notices as with 600");
        NoticeShifts x = notices(sentences(5, 5, 5), 120, 120, 1);
        x.listener(0, 0);
        due("no notices: 0", x.enough(0), 0);
        rows(x, "0/1/2");
        due("all of three", x.enough(0), 241);
        rows(x, "02/1/.");
        due("the long one is heard as soon as there is room for it", x.enough(0), 240);
        rows(x, "0/./.");
        due("one", x.enough(0), 120);
        rows(x, "2/./.");
        due("one of one second", x.enough(0), 1);
        NoticeShifts most = notices(sentencesOf(6, 5), 120, 120, 120, 120, 120, 1);
        most.listener(0, 0);
        rows(most, "0/1/2/3/4");
        due("the most: 600", most.enough(0), 600);
        most.book(5, 5);
        due("five, of which one is short", most.enough(0), 481);

        of("26", "(all else as it is");
        x.notice(50, 2);
        rows(x, "3/./.");
        due("for another group", x.enough(0), 0);
        x.listener(1, 600);
        due("for the group", x.enough(1), 50);

        of("26", "without regard to a file");
        x.load(1, false);
        x.empty(0);
        due("one that is not booked any more", x.enough(1), 0);
        x.book(1, 0);
        due("one that is not in the file", x.enough(1), 120);

        of("26", "Returns the bound");
        due("a second time", x.enough(1), 120);
    }

    /** With 600 seconds six are heard, with 599 seven: the least bound for six is asked for. */
    private void enoughWithMoreForLess() {
        NoticeShifts x = notices(sentencesOf(8, 5), 100, 100, 100, 100, 100, 100, 30, 30);
        x.listener(0, 0);
        rows(x, "0/1/2/3/4/5/6/7");
        due("four of 100 and two of 30", x.enough(0), 460);
        due("with 600", x.of(x.listener(0, 600), 5), 6);
        due("with 599", x.of(x.listener(0, 599), 5), 7);
        due("with 460", x.of(x.listener(0, 460), 5), 6);
        due("with 459", x.of(x.listener(0, 459), 5), 5);
    }

    private void enoughErrors() {
        of("26", "NO_SUCH if there is no such listener");
        due("none at all", new NoticeShifts().enough(0), NO_SUCH);
        NoticeShifts x = small();
        each("the listener", outside(0, 1), x::enough, NO_SUCH);
        due("the seventh of 6", full().enough(6), NO_SUCH);
    }
}
