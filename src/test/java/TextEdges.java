/** The sentences under 'Texts', and those of the promises 9 and 27 to 29. */
final class TextEdges extends Edges {
    TextEdges(Document document, Checks checks) {
        super(document, checks);
    }

    @Override
    void testAll() {
        sixtyCharacters();
        grammar();
        firstRow();
        faults();
        faultOfManyRows();
        faultOfATextThatEnds();
        read();
        readErrors();
        readNoSuch();
        put();
        putBytes();
        putErrors();
        wipe();
        fault();
    }

    private static int faultOf(String text) {
        return pad(new NoticeShifts(), text).fault();
    }

    // ---- Texts

    private void sixtyCharacters() {
        of("Texts", "The pad is a text of at most 60 characters, the rows of breaks: text = row { \"/\" row }");
        NoticeShifts x = new NoticeShifts();
        for (int length = 1; length <= 60; length++) {
            due("then it has", x.put('0'), length);
        }
        due("a 61st", x.put('0'), TOO_MANY);
        due("still 60", x.count(7), 60);
        due("12 rows", faultOf("0123/".repeat(11) + "0123"), NONE);
        due("one row", faultOf("0"), NONE);
        due("two rows", faultOf("0/1"), NONE);
        due("no row ahead of the /", faultOf("/0"), 0);
        due("no row between two /", faultOf("0//1"), 2);
    }

    private void grammar() {
        of("Texts", "row = \".\" | notice { notice }");
        due("a point", faultOf("."), NONE);
        due("two points", faultOf(".."), 1);
        due("a notice behind a point", faultOf(".0"), 1);
        due("a point behind a notice", faultOf("0."), 1);
        due("a point behind four notices", faultOf("0000."), 4);
        due("points in two rows", faultOf("./."), NONE);

        of("Texts", "a notice is a digit from 0 to 7");
        for (char code = 33; code <= 126; code++) {
            boolean isRow = code >= '0' && code <= '7' || code == '.';
            due("the code " + (int) code, faultOf(String.valueOf(code)), isRow ? NONE : 0);
            boolean isNotice = code >= '0' && code <= '7';
            due("the code " + (int) code + " behind a notice", faultOf("7" + code), code == '/' ? 2 : isNotice ? NONE : 1);
        }

        of("Texts", "a row has at most 4");
        due("three", faultOf("012"), NONE);
        due("four", faultOf("0123"), NONE);
        due("five", faultOf("01234"), 4);
        due("five in a second row", faultOf("0123/45670"), 9);
        due("four in each of two rows", faultOf("0123/4567"), NONE);

        of("Texts", "\".\" is an empty row");
        NoticeShifts x = rows(notices(new NoticeShifts(), 5), "0");
        rows(x, ".");
        due("how many it has", x.sentence(0, 5), 0);
    }

    private void firstRow() {
        of("Texts", "The first row is that of the break ahead of the sentence 0, and so on");
        NoticeShifts x = rows(notices(sentencesOf(24, 5), 1, 1, 1, 1, 1, 1, 1, 1), "0/1/2/3/4/5/6/7/0/1/2/3/4/5/6/7/0/1/2/3/4/5/6/7");
        for (int sentence = 0; sentence < 24; sentence++) {
            due("the row " + sentence, x.booked(sentence, 0), sentence % 8);
        }
    }

    private void faults() {
        of("Texts", "The fault is the index of the first character that cannot stand at its place when the text is read"
            + " from left to right (also the \"/\" behind a 24th row");
        due("the first character", faultOf("8"), 0);
        due("the first of two", faultOf("089"), 1);
        due("the last character", faultOf("0/1/2/8"), 6);
        due("what follows does not matter", faultOf("0/x/8/"), 2);
        due("a fault at the end of a full pad", faultOf("0123/".repeat(11) + "01234"), 59);

        of("Texts", "which notices and how many sentences there are does not matter");
        NoticeShifts x = new NoticeShifts();
        due("no notice, one sentence", pad(x, "7/7").fault(), NONE);
        notices(x, 5);
        x.putIn(1, 5);
        due("one notice, two sentences", x.fault(), NONE);
        due("24 rows of one sentence", faultOf("0/".repeat(23) + "7"), NONE);
    }

    private void faultOfManyRows() {
        of("Texts", "(also the \"/\" behind a 24th row");
        due("24 rows", faultOf("./".repeat(23) + "."), NONE);
        due("a / behind the 24th", faultOf("./".repeat(23) + "./"), 47);
        due("a 25th row", faultOf("./".repeat(24) + "."), 47);
        due("a / behind the 24th of four", faultOf("./".repeat(23) + "0123/"), 50);
        due("a fifth notice in the 24th", faultOf("./".repeat(23) + "01234"), 50);
        due("no 24th row", faultOf("./".repeat(23)), 46);
        due("no 24th row, but a /", faultOf("./".repeat(23) + "/"), 46);
        due("a fault ahead of it", faultOf("./".repeat(10) + "../" + "./".repeat(18)), 21);
    }

    private void faultOfATextThatEnds() {
        of("Texts", "if there is none and the text ends too early (also if it is empty), it is the length of the text");
        due("empty", new NoticeShifts().fault(), 0);
        due("behind a /", faultOf("0/"), 2);
        due("behind a / and a point", faultOf("./"), 2);
        due("behind a / and four notices", faultOf("0000/"), 5);
        due("the longest", faultOf("0000/".repeat(12)), 60);
        NoticeShifts x = pad(new NoticeShifts(), "0");
        x.wipe();
        due("wiped", x.fault(), 0);
        due("one that goes on", pad(x, "0/").fault(), 2);
        due("and ends", pad(x, "0").fault(), NONE);
    }

    // ---- promise 9

    private void read() {
        of("9", "Takes the rows of the pad for the breaks of the first sentences, those of the others stay");
        NoticeShifts x = rows(notices(sentences(1, 2, 3), 5, 6), "0/01/011");
        rows(x, "1/.");
        due("the first row", x.booked(0, 0), 1);
        due("not more in it", x.sentence(0, 5), 1);
        due("an empty row for one of two", x.sentence(1, 5), 0);
        due("the third one stays", x.sentence(2, 5), 3);
        due("with its notices", x.booked(2, 2), 1);
        rows(x, "1101/0000/1010");
        due("rows of four", x.sentence(0, 5) + x.sentence(1, 5) + x.sentence(2, 5), 12);
        due("the last place of the first one", x.booked(0, 3), 1);
        due("the last place of the last one", x.booked(2, 3), 0);

        of("9", "and empties the pad");
        pad(x, "0/1/.");
        x.read();
        due("its length", x.count(7), 0);
        due("its fault", x.fault(), 0);
        due("a second time", x.read(), BAD_TEXT);

        of("9", "This is a change");
        isChange("read()", () -> pad(small(), "./1/0000"), NoticeShifts::read);
        isChange("read() of the rows that are there", () -> pad(small(), "0/10/."), NoticeShifts::read);

        of("9", "Returns how many rows were taken");
        due("one", pad(x, "0").read(), 1);
        due("as many as sentences", pad(x, "0/1/.").read(), 3);
        due("24", pad(sentencesOf(24, 5), "./".repeat(23) + ".").read(), 24);
        due("12 rows of four", pad(full12(), "0000/".repeat(11) + "0000").read(), 12);
    }

    private static NoticeShifts full12() {
        return notices(sentencesOf(12, 5), 5);
    }

    private void readErrors() {
        of("9", "BAD_TEXT if the pad has a fault");
        NoticeShifts x = notices(sentences(1, 2), 5);
        due("empty", x.read(), BAD_TEXT);
        due("ends too early", pad(x, "0/").read(), BAD_TEXT);
        due("the pad stays", x.count(7), 2);
        due("goes on", pad(x, "0").read(), 2);
        due("a digit that is no notice", pad(x, "8").read(), BAD_TEXT);
        x.wipe();
        due("a fifth", pad(x, "00000").read(), BAD_TEXT);
        x.wipe();
        due("a fault behind a row too many and no notice", pad(x, "1/0/0/").read(), BAD_TEXT);
        due("a 25th row", pad(sentencesOf(24, 5), "./".repeat(24) + ".").read(), BAD_TEXT);
    }

    private void readNoSuch() {
        of("9", "NO_SUCH if there is no such sentence, or no such notice");
        NoticeShifts x = notices(sentences(1, 2), 5);
        due("a third row of two", pad(x, "0/0/.").read(), NO_SUCH);
        due("the pad stays", x.count(7), 5);
        due("nothing was taken", x.sentence(0, 5), 0);
        x.putIn(2, 5);
        due("with a third sentence", x.read(), 3);
        due("a notice that is not told", pad(x, "0/1").read(), NO_SUCH);
        due("nothing was taken of the row ahead of it", x.sentence(1, 5), 1);
        notices(x, 6);
        due("with this notice", x.read(), 2);
        due("the eighth of seven", pad(notices(x, 1, 1, 1, 1, 1), "6/7").read(), NO_SUCH);
        notices(x, 1);
        due("the eighth", x.read(), 2);
        due("no notices at all", pad(new NoticeShifts(), "0").read(), NO_SUCH);
        due("no notices at all, and an empty row", pad(new NoticeShifts(), ".").read(), 1);
        due("24 rows of 23", pad(sentencesOf(23, 5), "./".repeat(23) + ".").read(), NO_SUCH);
    }

    // ---- promises 27 to 29

    private void put() {
        of("27", "Appends characters to the pad");
        NoticeShifts x = notices(sentences(1, 2, 3), 1, 1, 1, 1);
        x.put(Checks.packed("01/"));
        x.put(Checks.packed("2/3"));
        due("both are read", x.read(), 3);
        due("the first ones", x.booked(0, 1), 1);
        due("the second ones", x.booked(2, 0), 3);

        of("27", "They are given as a number: its lowest 8 bits are the last character, the next 8 bits the one before,"
            + " and so on");
        x.put('0' << 24 | '1' << 16 | '2' << 8 | '3');
        x.read();
        for (int place = 0; place < 4; place++) {
            due("in their order", x.booked(0, place), place);
        }
        x.put(0x302F312F322F332FL);
        due("eight of them", x.fault(), 8);
        x.put('.');
        x.putIn(3, 5);
        x.putIn(4, 5);
        due("read", x.read(), 5);
        due("in their order", x.booked(3, 0), 3);

        of("27", "- `characters`: 1 to 8 characters");
        for (int length = 1; length <= 8; length++) {
            due("so many", new NoticeShifts().put(Checks.packed("01234567".substring(0, length))), length);
        }

        of("27", "Returns the length of the pad then");
        due("one", x.put(33), 1);
        due("and eight", x.put(0x7E7E7E7E7E7E7E7EL), 9);
    }

    private void putBytes() {
        of("27", "8 bits that are 0 mean that there are no more characters, and everything above them has to be 0, too");
        NoticeShifts x = new NoticeShifts();
        for (int zero = 0; zero < 8; zero++) {
            long below = 0x3030303030303030L & ~(-1L << 8 * zero);
            for (int bit = 8 * zero + 8; bit < 64; bit++) {
                due("the 8 bits " + zero + " are 0, but not the bit " + bit, x.put(below | 1L << bit), BAD_VALUE);
            }
        }
        due("nothing was put", x.count(7), 0);
        due("all above are 0", x.put(0x30303030303030L), 7);
    }

    private void putErrors() {
        of("27", "BAD_VALUE if there is no character, a code is not 33 to 126, or a bit above 8 bits that are 0 is not 0");
        NoticeShifts x = new NoticeShifts();
        due("no character", x.put(0), BAD_VALUE);
        for (int code = 1; code < 256; code++) {
            boolean isGood = code >= 33 && code <= 126;
            due("the code " + code, new NoticeShifts().put(code), isGood ? 1 : BAD_VALUE);
            due("the code " + code + " ahead of another one", new NoticeShifts().put(code << 8 | '0'), isGood ? 2 : BAD_VALUE);
            long first = (long) code << 56 | 0x30303030303030L;
            due("the code " + code + " as the first of 8", new NoticeShifts().put(first), isGood ? 8 : BAD_VALUE);
        }
        due("a bit above", x.put(0x310030), BAD_VALUE);
        due("all bits", x.put(-1), BAD_VALUE);
        due("the least number", x.put(Long.MIN_VALUE), BAD_VALUE);
        due("the most", x.put(Long.MAX_VALUE), BAD_VALUE);
        due("nothing was put", x.count(7), 0);

        of("27", "TOO_MANY if the pad would be longer than 60");
        NoticeShifts y = pad(new NoticeShifts(), "0".repeat(53));
        due("61", y.put(0x3030303030303030L), TOO_MANY);
        due("nothing was put", y.count(7), 53);
        due("60", y.put(0x30303030303030L), 60);
        due("61", y.put('0'), TOO_MANY);
        due("68", y.put(0x3030303030303030L), TOO_MANY);
        due("a code out of range comes first", y.put(0x2030), BAD_VALUE);
        due("no character comes first", y.put(0), BAD_VALUE);
    }

    private void wipe() {
        of("28", "Empties the pad, and returns the length that it had");
        NoticeShifts x = new NoticeShifts();
        due("an empty one", x.wipe(), 0);
        pad(x, "8");
        due("one with a fault", x.wipe(), 1);
        pad(x, "0".repeat(60));
        due("a full one", x.wipe(), 60);
        due("then it is empty", x.count(7), 0);
        due("it is no change", x.count(8), 0);
        due("there is room again", pad(x, "0".repeat(60)).count(7), 60);
        for (String wiped : new String[] {"07", "0/", "00", "0."}) {
            NoticeShifts y = pad(notices(new NoticeShifts(), 5), wiped);
            y.wipe();
            due("nothing is read of " + wiped, pad(y, "0").read(), 1);
            due("but what was put behind it", y.sentence(0, 5), 1);
        }
    }

    private void fault() {
        of("29", "Returns the fault of the pad, NONE if there is none");
        NoticeShifts x = new NoticeShifts();
        due("an empty one", x.fault(), 0);
        due("none", pad(x, "0").fault(), NONE);
        due("a fault", pad(x, "8").fault(), 1);
        due("the same again", x.fault(), 1);
        due("the pad stays", x.count(7), 2);
    }
}
