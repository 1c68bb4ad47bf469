/** The sentences under 'Notices, breaks', and those of the promises 6 to 8, 14 and 15. */
final class NoticeEdges extends Edges {
    NoticeEdges(Document document, Checks checks) {
        super(document, checks);
    }

    @Override
    void testAll() {
        eightNotices();
        lengthsAndGroups();
        rowsOfBreaks();
        breaksOfSentencesPutIn();
        breaksOfSentencesCutOut();
        notice();
        noticeErrors();
        book();
        bookErrors();
        empty();
        booked();
        ofNotice();
        ofNoticeErrors();
    }

    // ---- Notices, breaks

    private void eightNotices() {
        of("Episode", "Notices, breaks");
        due("none at first", new NoticeShifts().count(3), 0);

        of("Episode", "There are up to 8 notices, numbered in the order in which they were told");
        NoticeShifts x = new NoticeShifts();
        for (int number = 0; number < 8; number++) {
            due("the number", x.notice(number + 1, 63), number);
            due("then there are", x.count(3), number + 1);
        }
        due("a ninth", x.notice(1, 1), TOO_MANY);
        due("still 8", x.count(3), 8);
        for (int number = 0; number < 8; number++) {
            due("the one of this number", x.ofNotice(number, 0), number + 1);
        }
        x.undo();
        due("an eighth again", x.notice(50, 1), 7);
        due("is the new one", x.ofNotice(7, 0), 50);
    }

    private void lengthsAndGroups() {
        of("Episode", "A notice has a length (1 to 120) and groups, a set of the groups 0 to 5, not empty");
        NoticeShifts x = new NoticeShifts();
        x.notice(1, 1);
        x.notice(120, 32);
        x.notice(60, 63);
        due("the least length", x.ofNotice(0, 0), 1);
        due("the most", x.ofNotice(1, 0), 120);
        due("the group 0 alone", x.ofNotice(0, 1), 1);
        due("the group 5 alone", x.ofNotice(1, 1), 32);
        due("all groups", x.ofNotice(2, 1), 63);
        due("no length 0", x.notice(0, 1), BAD_VALUE);
        due("no length 121", x.notice(121, 1), BAD_VALUE);
        due("no empty set", x.notice(1, 0), BAD_VALUE);
        due("no group 6", x.notice(1, 64), BAD_VALUE);
        due("no group 6 beside others", x.notice(1, 65), BAD_VALUE);
    }

    private void rowsOfBreaks() {
        of("Episode", "Ahead of each sentence there is a break, which has a row of up to 4 notices (none at first");
        NoticeShifts x = notices(sentences(1, 2), 5, 6);
        due("none at first", x.sentence(0, 5), 0);
        due("none at first", x.sentence(1, 5), 0);
        for (int number = 1; number <= 4; number++) {
            due("then there are", x.book(1, 1), number);
        }
        due("a fifth", x.book(1, 1), TOO_MANY);
        due("in the other one there is room", x.book(0, 1), 1);

        of("Episode", "the same one can be there twice");
        x.empty(1);
        x.book(1, 0);
        due("the same one", x.book(1, 0), 2);
        due("the first place", x.booked(1, 0), 0);
        due("the second place", x.booked(1, 1), 0);
        x.book(1, 0);
        due("four times", x.book(1, 0), 4);
    }

    private void breaksOfSentencesPutIn() {
        of("Episode", "A sentence that is put in has an empty break");
        NoticeShifts x = rows(notices(sentences(1, 2, 3), 5, 6, 7), "0/11/2222");
        x.putIn(2, 4);
        due("the new one", x.sentence(2, 5), 0);
        due("nothing at its place 0", x.booked(2, 0), NO_SUCH);
        due("the one ahead keeps its row", x.sentence(1, 5), 2);
        due("the one behind keeps its row", x.sentence(3, 5), 4);
        due("and its notice", x.booked(3, 3), 2);
        x.putIn(0, 5);
        due("the new first one", x.sentence(0, 5), 0);
        due("the one that was first", x.booked(1, 0), 0);
        x.cutOut(4);
        x.putIn(4, 6);
        due("one at the end, in the place of one with a full row", x.sentence(4, 5), 0);
        due("and it takes what is booked", x.book(4, 1), 1);
        due("alone", x.booked(4, 1), NO_SUCH);
    }

    private void breaksOfSentencesCutOut() {
        of("Episode", "with a sentence that is cut out its break goes");
        NoticeShifts x = rows(notices(sentences(1, 2, 3), 5, 6, 7), "0/11/2222");
        x.cutOut(1);
        due("in no break", x.ofNotice(1, 2), 0);
        due("the one ahead keeps its row", x.sentence(0, 5), 1);
        due("the one behind keeps its row", x.sentence(1, 5), 4);
        x.cutOut(1);
        due("the last one", x.ofNotice(2, 2), 0);
        x.putIn(0, 9);
        x.cutOut(1);
        due("the one that was first", x.ofNotice(0, 2), 0);
        due("an empty row is left", x.sentence(0, 5), 0);
    }

    // ---- promises 6 to 8

    private void notice() {
        of("6", "Tells a notice");
        NoticeShifts x = new NoticeShifts();
        x.notice(7, 5);
        due("its length", x.ofNotice(0, 0), 7);
        due("its groups", x.ofNotice(0, 1), 5);
        due("in no break", x.ofNotice(0, 2), 0);

        of("6", "This is a change");
        isChange("notice(1, 1)", Edges::small, y -> y.notice(1, 1));

        of("6", "- `length`: 1 to 120");
        due("the least", x.notice(1, 1), 1);
        due("the most", x.notice(120, 1), 2);
        each("the length", outside(1, 120), length -> x.notice(length, 1), BAD_VALUE);

        of("6", "- `groups`: 1 to 63");
        due("the least", x.notice(1, 1), 3);
        due("the most", x.notice(1, 63), 4);
        each("the groups", outside(1, 63), groups -> x.notice(1, groups), BAD_VALUE);

        of("6", "Returns its number");
        due("the sixth", x.notice(1, 1), 5);
        due("one that is just like it", x.notice(1, 1), 6);
    }

    private void noticeErrors() {
        of("6", "BAD_VALUE if an argument is out of range");
        NoticeShifts x = new NoticeShifts();
        due("length 0", x.notice(0, 1), BAD_VALUE);
        due("length 121", x.notice(121, 63), BAD_VALUE);
        due("groups 0", x.notice(120, 0), BAD_VALUE);
        due("groups 64", x.notice(1, 64), BAD_VALUE);
        due("both", x.notice(0, 0), BAD_VALUE);
        due("none was told", x.count(3), 0);

        of("6", "TOO_MANY if there are 8");
        notices(x, 1, 2, 3, 4, 5, 6, 7);
        due("an eighth", x.notice(8, 1), 7);
        due("a ninth", x.notice(9, 1), TOO_MANY);
        due("a ninth out of range", x.notice(9, 64), BAD_VALUE);
        due("the eighth stays", x.ofNotice(7, 0), 8);
    }

    private void book() {
        of("7", "Puts a notice at the end of the row of a break");
        NoticeShifts x = notices(sentencesOf(24, 5), 1, 2, 3, 4, 5, 6, 7, 8);
        int[] row = {7, 0, 3, 7};
        for (int notice : row) {
            x.book(23, notice);
        }
        for (int place = 0; place < 4; place++) {
            due("the place " + place, x.booked(23, place), row[place]);
        }
        due("nothing in the row ahead", x.sentence(22, 5), 0);

        of("7", "This is a change");
        isChange("book(2, 1)", Edges::small, y -> y.book(2, 1));

        of("7", "Returns how many the row has then");
        for (int number = 1; number <= 4; number++) {
            due("then", x.book(0, 0), number);
        }
        x.empty(0);
        due("one in an emptied row", x.book(0, 7), 1);
    }

    private void bookErrors() {
        of("7", "NO_SUCH if there is no such sentence or notice");
        NoticeShifts x = sentences(1, 2);
        due("no notice at all", x.book(0, 0), NO_SUCH);
        notices(x, 5, 6);
        each("the sentence", outside(0, 1), sentence -> x.book(sentence, 0), NO_SUCH);
        each("the notice", outside(0, 1), notice -> x.book(0, notice), NO_SUCH);
        due("neither", x.book(2, 2), NO_SUCH);
        due("the row of a full break, and no notice", rows(x, "0000").book(0, 2), NO_SUCH);
        x.undo();
        x.undo();
        due("a notice that is not yet told", x.book(1, 1), NO_SUCH);

        of("7", "TOO_MANY if it has 4");
        NoticeShifts y = rows(notices(sentences(1, 2), 5, 6), "010/0101");
        due("a fourth", y.book(0, 1), 4);
        due("a fifth", y.book(0, 1), TOO_MANY);
        due("a fifth behind rows that were read", y.book(1, 0), TOO_MANY);
        due("the last place stays", y.booked(1, 3), 1);
    }

    private void empty() {
        of("8", "Empties the row of a break");
        NoticeShifts x = rows(notices(sentences(1, 2, 3), 5), "0/0000/00");
        due("four", x.empty(1), 4);
        due("none is left", x.sentence(1, 5), 0);
        due("the one ahead stays", x.sentence(0, 5), 1);
        due("the one behind stays", x.sentence(2, 5), 2);

        of("8", "This is a change");
        isChange("empty(1)", Edges::small, y -> y.empty(1));
        isChange("empty of an empty row", Edges::small, y -> y.empty(2));

        of("8", "Returns how many it had");
        due("none", x.empty(1), 0);
        due("two", x.empty(2), 2);
        due("one", x.empty(0), 1);
        due("none of a new object", new NoticeShifts().empty(0), 0);

        of("8", "NO_SUCH if there is no such sentence");
        each("the sentence", outside(0, 2), x::empty, NO_SUCH);
        due("the 25th of 24", full().empty(24), NO_SUCH);
    }

    // ---- promises 14 and 15

    private void booked() {
        of("14", "Returns a notice of the row of a break");
        NoticeShifts x = rows(notices(sentences(1, 2, 3), 1, 2, 3, 4, 5, 6, 7, 8), "7/./0123");
        due("the only one", x.booked(0, 0), 7);

        of("14", "Returns the notice");
        for (int place = 0; place < 4; place++) {
            due("the place " + place, x.booked(2, place), place);
        }

        of("14", "NO_SUCH if there is no such sentence or place");
        each("the sentence", outside(0, 2), sentence -> x.booked(sentence, 0), NO_SUCH);
        each("the place of a full row", outside(0, 3), place -> x.booked(2, place), NO_SUCH);
        each("the place of a row of one", outside(0, 0), place -> x.booked(0, place), NO_SUCH);
        due("an empty row", x.booked(1, 0), NO_SUCH);
        x.empty(2);
        due("an emptied row", x.booked(2, 0), NO_SUCH);
        x.book(2, 5);
        due("a row that was emptied, with one", x.booked(2, 1), NO_SUCH);
    }

    private void ofNotice() {
        of("15", "Returns something about a notice");
        NoticeShifts x = new NoticeShifts();
        x.notice(120, 63);
        x.notice(1, 32);
        due("its length", x.ofNotice(0, 0), 120);

        of("15", "- `what`: 0 its length, 1 its groups, 2 in how many breaks it is, 3 how many listeners hear it"
            + " (without regard to files)");
        due("0", x.ofNotice(1, 0), 1);
        due("1", x.ofNotice(1, 1), 32);
        due("2, in none", x.ofNotice(0, 2), 0);
        x.book(0, 0);
        x.book(0, 0);
        due("2, twice in one", x.ofNotice(0, 2), 1);
        for (int sentence = 1; sentence < 24; sentence++) {
            x.putIn(sentence, 5);
            x.book(sentence, 0);
        }
        due("2, in 24", x.ofNotice(0, 2), 24);
        due("3, without listeners", x.ofNotice(0, 3), 0);
        for (int number = 0; number < 6; number++) {
            x.listener(number, 120);
            due("3, of so many listeners", x.ofNotice(0, 3), number + 1);
        }
        x.load(0, false);
        for (int sentence = 0; sentence < 24; sentence++) {
            x.empty(sentence);
        }
        due("3, a file does not count", x.ofNotice(0, 3), 0);
        x.book(23, 0);
        x.load(1, false);
        x.book(22, 1);
        due("3, in the last break", x.ofNotice(0, 3), 5);
        due("3, a file does not count", x.ofNotice(1, 3), 1);

        of("15", "Returns the number");
        due("a second time", x.ofNotice(1, 3), 1);
    }

    private void ofNoticeErrors() {
        of("15", "NO_SUCH if there is no such notice");
        NoticeShifts none = new NoticeShifts();
        due("none at all", none.ofNotice(0, 0), NO_SUCH);
        NoticeShifts x = notices(new NoticeShifts(), 5, 6);
        for (int what = -1; what <= 4; what++) {
            int asked = what;
            each("what " + what, outside(0, 1), notice -> x.ofNotice(notice, asked), NO_SUCH);
        }
        due("the ninth of 8", full().ofNotice(8, 0), NO_SUCH);

        of("15", "BAD_VALUE if what is out of range");
        each("what", outside(0, 3), what -> x.ofNotice(1, what), BAD_VALUE);
    }
}
