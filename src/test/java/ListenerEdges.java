/** The sentences under 'Listeners', and those of the promises 10, 11, 16 and 17. */
final class ListenerEdges extends Edges {
    ListenerEdges(Document document, Checks checks) {
        super(document, checks);
    }

    @Override
    void testAll() {
        sixListeners();
        groupAndBound();
        theFirstForTheGroup();
        notHeardAhead();
        withinTheBound();
        noneAndAtMostOne();
        thenTheSentence();
        fileAsItWas();
        withoutAFile();
        outOfDate();
        listener();
        load();
        loadErrors();
        ofListener();
        ofListenerErrors();
        count();
        countOfNothingAndOfAll();
    }

    // ---- Listeners

    private void sixListeners() {
        of("Listeners", "There are up to 6 listeners, numbered in the order in which they came");
        NoticeShifts x = new NoticeShifts();
        for (int number = 0; number < 6; number++) {
            due("the number", x.listener(5 - number, number), number);
            due("then there are", x.count(4), number + 1);
        }
        due("a seventh", x.listener(0, 0), TOO_MANY);
        due("still 6", x.count(4), 6);
        for (int number = 0; number < 6; number++) {
            due("the one of this number", x.of(number, 1), number);
        }
        x.undo();
        due("a sixth again", x.listener(3, 77), 5);
        due("is the new one", x.of(5, 1), 77);
    }

    private void groupAndBound() {
        of("Listeners", "A listener has a group (0 to 5) and a bound (0 to 600): the most seconds of notices");
        NoticeShifts x = notices(sentencesOf(24, 5), 120, 120, 120, 120, 120, 120, 1);
        x.listener(0, 0);
        x.listener(5, 600);
        for (int sentence = 0; sentence < 6; sentence++) {
            x.book(sentence, sentence);
        }
        due("the bound 0 leaves room for none", x.of(0, 6), 0);
        due("the bound 600", x.of(1, 6), 600);
        due("five of 120", x.of(1, 5), 5);
        x.book(23, 6);
        due("not one second more", x.heard(1, 23), NONE);
        due("not even one second", x.heard(0, 23), NONE);
        due("no group 6", x.listener(6, 0), BAD_VALUE);
        due("no bound 601", x.listener(0, 601), BAD_VALUE);
    }

    private void theFirstForTheGroup() {
        of("Listeners", "of the break's row the first notice is heard that is for the listener's group");
        NoticeShifts x = new NoticeShifts();
        x.notice(10, 1);
        x.notice(11, 2 | 32);
        x.notice(12, 63);
        for (int group = 0; group < 6; group++) {
            x.listener(group, 600);
        }
        rows(x, "0122");
        int[] heard = {0, 1, 2, 2, 2, 1};
        for (int group = 0; group < 6; group++) {
            due("the group " + group, x.heard(group, 0), heard[group]);
        }
        rows(x, "2100");
        for (int group = 0; group < 6; group++) {
            due("the first one is for all", x.heard(group, 0), 2);
        }
        rows(x, "1110");
        due("the fourth one", x.heard(0, 0), 0);
        due("the first one", x.heard(1, 0), 1);
        due("none", x.heard(2, 0), NONE);
    }

    private void notHeardAhead() {
        of("Listeners", "was not heard in a break ahead of it");
        NoticeShifts x = notices(sentencesOf(4, 5), 10, 20);
        x.listener(0, 600);
        x.listener(0, 20);
        rows(x, "0/01/01/10");
        int[] first = {0, 1, NONE, NONE};
        for (int sentence = 0; sentence < 4; sentence++) {
            due("the break " + sentence, x.heard(0, sentence), first[sentence]);
        }
        due("no room for the other one", x.heard(1, 1), NONE);
        rows(x, "01/1/./.");
        due("booked ahead, but not heard there", x.heard(0, 1), 1);
        rows(x, "1/01/01/10");
        due("room for one of 20", x.heard(1, 0), 1);
        due("and for none behind it", x.heard(1, 1), NONE);
        rows(x, "./0/./0");
        due("behind empty breaks", x.heard(0, 1), 0);
        due("in the last break it was heard ahead", x.heard(0, 3), NONE);
        NoticeShifts most = notices(sentencesOf(24, 5), 1, 1, 1, 1, 1, 1, 1, 1);
        most.listener(0, 600);
        for (int sentence = 0; sentence < 24; sentence++) {
            most.book(sentence, sentence % 8);
        }
        due("each of 8 once", most.of(0, 5), 8);
        due("the eighth", most.heard(0, 7), 7);
        due("the first one again", most.heard(0, 8), NONE);
    }

    private void withinTheBound() {
        of("Listeners", "and whose length, and the lengths of all that were heard ahead of it, are together no more"
            + " than the bound");
        NoticeShifts x = notices(sentences(5, 5, 5), 30, 20, 10);
        x.listener(0, 60);
        x.listener(0, 59);
        x.listener(0, 50);
        x.listener(0, 49);
        x.listener(0, 30);
        x.listener(0, 29);
        rows(x, "0/1/2");
        int[][] heard = {
            {0, 1, 2}, {0, 1, NONE}, {0, 1, NONE}, {0, NONE, 2}, {0, NONE, NONE}, {NONE, 1, NONE}};
        for (int listener = 0; listener < 6; listener++) {
            for (int sentence = 0; sentence < 3; sentence++) {
                due("heard(" + listener + ", " + sentence + ")", x.heard(listener, sentence), heard[listener][sentence]);
            }
        }
        rows(x, "012/./.");
        due("too long: the next one of the row", x.heard(5, 0), 1);
        due("just as long as the bound", x.heard(4, 0), 0);
        NoticeShifts one = notices(new NoticeShifts(), 1);
        one.listener(0, 0);
        one.listener(0, 1);
        one.book(0, 0);
        due("one second with the bound 0", one.heard(0, 0), NONE);
        due("one second with the bound 1", one.heard(1, 0), 0);
    }

    private void noneAndAtMostOne() {
        of("Listeners", "none, if there is no such one");
        NoticeShifts x = notices(new NoticeShifts(), 1, 2, 3, 4);
        x.listener(0, 600);
        due("an empty row", x.heard(0, 0), NONE);
        due("no notices", x.of(0, 5), 0);

        of("Listeners", "(So at most one in each break.)");
        rows(x, "3210");
        due("one of four", x.of(0, 5), 1);
        due("its seconds", x.of(0, 6), 4);
        rows(x, "0000");
        due("one of four that are the same", x.of(0, 5), 1);
    }

    private void thenTheSentence() {
        of("Listeners", "Then comes the sentence");
        NoticeShifts x = notices(new NoticeShifts(), 3);
        x.listener(0, 600);
        x.book(0, 0);
        due("the notice", x.heardAt(0, 2, 1), 0);
        due("the sentence", x.heardAt(0, 3, 1), NONE);
        due("from its beginning", x.heardAt(0, 3, 0), 0);
        due("to its end", x.heardAt(0, 12, 0), 9);
        due("and all is over", x.heardAt(0, 13, 0), NOT_POSSIBLE);
    }

    private void fileAsItWas() {
        of("Listeners", "A listener's file is what the listener heard when the file was loaded: for each break the"
            + " notice, and its length, and the sentences with marks, lengths and chapters, as they were then");
        NoticeShifts x = notices(sentences(10, 20, 30), 5, 7);
        x.chapter(1, true);
        x.listener(0, 600);
        rows(x, "0/./1");
        x.load(0, false);
        x.chapter(1, false);
        x.chapter(2, true);
        x.change(0, 300);
        x.cutOut(1);
        x.putIn(0, 40);
        rows(x, "1/1/.");
        due("the sentences", x.of(0, 7), 3);
        due("the notices", x.heard(0, 0), 0);
        due("the notices", x.heard(0, 1), NONE);
        due("the notices", x.heard(0, 2), 1);
        due("their lengths", x.of(0, 6), 12);
        due("the mark of the first one", x.open(0, 0, 0), 5);
        due("the mark of one that was cut out", x.open(0, 1, 19), 34);
        due("no mark of one that was put in", x.open(0, 3, 0), NOT_POSSIBLE);
        due("the lengths", x.of(0, 4), 72);
        due("the chapters", x.chapterAt(0, 1), 15);
        due("no third chapter", x.chapterAt(0, 2), NO_SUCH);
    }

    private void withoutAFile() {
        of("Listeners", "Without a file a listener hears what there is now");
        NoticeShifts x = notices(sentences(10), 5);
        x.listener(0, 600);
        due("the sentence", x.of(0, 4), 10);
        x.book(0, 0);
        due("a notice more", x.of(0, 4), 15);
        x.putIn(1, 20);
        due("a sentence more", x.of(0, 4), 35);
        x.load(0, false);
        x.cutOut(0);
        due("with a file", x.of(0, 4), 35);
        x.load(0, true);
        due("without it", x.of(0, 4), 20);
    }

    private void outOfDate() {
        of("Listeners", "A file is out of date if what the listener would hear now differs from it in anything of that");
        NoticeShifts x = notices(sentencesOf(24, 300), 50, 50, 120);
        x.listener(0, 100);
        x.listener(5, 0);
        x.book(23, 0);
        x.load(0, false);
        x.load(1, false);
        x.save(0);
        due("as they were", x.count(5), 0);
        x.change(23, 299);
        due("a second less at the end", x.count(5), 3);
        x.change(23, 300);
        due("as long as before", x.count(5), 0);
        x.chapter(23, true);
        due("a chapter at the end", x.count(5), 3);
        x.restore(0);
        x.empty(23);
        x.book(23, 1);
        due("another notice of the same length, for the one who hears it", x.count(5), 1);
        x.restore(0);
        x.book(22, 2);
        due("a notice that is too long for both", x.count(5), 0);
        x.book(22, 0);
        due("the same notice a break earlier", x.count(5), 1);
        x.restore(0);
        x.book(23, 1);
        due("a notice behind it in the row", x.count(5), 0);
        x.cutOut(23);
        due("a sentence less at the end", x.count(5), 3);
        x.putIn(23, 300);
        x.book(23, 0);
        due("a sentence just like it, with another mark", x.count(5), 3);
        x.undo();
        x.undo();
        x.undo();
        due("the sentence with its mark", x.count(5), 0);
        x.load(0, true);
        x.change(0, 1);
        due("not without a file", x.count(5), 2);
        NoticeShifts y = rows(notices(new NoticeShifts(), 5, 5), "0");
        y.listener(0, 600);
        y.load(0, false);
        rows(y, "1");
        due("another notice in the only break", y.of(0, 3), 1);
        rows(y, ".");
        due("none in the only break", y.of(0, 3), 1);
        rows(y, "0");
        due("the same one in the only break", y.of(0, 3), 0);
    }

    // ---- promises 10 and 11

    private void listener() {
        of("10", "Adds a listener, without a file");
        NoticeShifts x = new NoticeShifts();
        x.listener(3, 50);
        due("its group", x.of(0, 0), 3);
        due("its bound", x.of(0, 1), 50);
        due("no file", x.of(0, 2), 0);
        due("nothing to be thrown away", x.load(0, true), NOT_POSSIBLE);
        x.load(0, false);
        x.undo();
        x.undo();
        x.listener(3, 50);
        due("no file where one was undone", x.of(0, 2), 0);
        NoticeShifts y = new NoticeShifts();
        y.save(0);
        y.listener(0, 0);
        y.load(0, false);
        y.restore(0);
        y.listener(0, 0);
        due("no file of a listener who is not there any more", y.of(0, 2), 0);

        of("10", "This is a change");
        isChange("listener(0, 0)", Edges::small, z -> z.listener(0, 0));

        of("10", "- `group`: 0 to 5");
        due("the least", x.listener(0, 5), 1);
        due("the most", x.listener(5, 5), 2);
        each("the group", outside(0, 5), group -> x.listener(group, 5), BAD_VALUE);

        of("10", "- `bound`: 0 to 600");
        due("the least", x.listener(0, 0), 3);
        due("the most", x.listener(0, 600), 4);
        each("the bound", outside(0, 600), bound -> x.listener(0, bound), BAD_VALUE);

        of("10", "Returns the number");
        due("one that is just like another", x.listener(0, 600), 5);

        of("10", "BAD_VALUE if an argument is out of range");
        due("both, and there are 6", x.listener(-1, -1), BAD_VALUE);
        due("group 6", x.listener(6, 0), BAD_VALUE);
        due("bound 601", x.listener(0, 601), BAD_VALUE);

        of("10", "TOO_MANY if there are 6");
        due("a seventh", x.listener(0, 0), TOO_MANY);
        x.undo();
        due("a sixth", x.listener(0, 0), 5);
        due("a seventh", x.listener(0, 0), TOO_MANY);
    }

    private void load() {
        of("11", "A listener loads a file of what there is now, in place of the one that was, or throws it away");
        NoticeShifts x = notices(sentences(10), 5);
        x.listener(0, 600);
        x.listener(0, 600);
        x.load(0, false);
        due("there is one", x.of(0, 2), 1);
        due("not for the other one", x.of(1, 2), 0);
        x.putIn(1, 20);
        x.book(1, 0);
        due("out of date", x.of(0, 3), 1);
        x.load(0, false);
        due("in place of it", x.of(0, 3), 0);
        due("of more sentences", x.of(0, 7), 2);
        x.cutOut(1);
        x.load(0, false);
        due("of less sentences", x.of(0, 7), 1);
        due("no notice of the one before", x.of(0, 5), 0);
        x.load(0, true);
        due("there is none", x.of(0, 2), 0);

        of("11", "This is a change");
        isChange("load(0, false)", Edges::small, y -> y.load(0, false));
        isChange("load(1, false)", Edges::small, y -> y.load(1, false));
        isChange("load(0, true)", Edges::small, y -> y.load(0, true));

        of("11", "Returns the length of what the listener hears then");
        NoticeShifts most = full();
        due("the longest", most.load(0, false), 7800);
        most.change(0, 1);
        due("thrown away: of now", most.load(0, true), 7501);
        due("loaded: of now", most.load(1, false), 7501);
        due("one second", sentenceOfOneSecond().load(0, false), 1);
    }

    private static NoticeShifts sentenceOfOneSecond() {
        NoticeShifts x = sentences(1);
        x.listener(0, 0);
        return x;
    }

    private void loadErrors() {
        of("11", "NO_SUCH if there is no such listener");
        NoticeShifts none = new NoticeShifts();
        due("none at all", none.load(0, false), NO_SUCH);
        due("none at all", none.load(0, true), NO_SUCH);
        NoticeShifts x = full();
        each("loads", outside(0, 5), listener -> x.load(listener, false), NO_SUCH);
        each("throws away", outside(0, 5), listener -> x.load(listener, true), NO_SUCH);

        of("11", "NOT_POSSIBLE if there is no file to be thrown away");
        NoticeShifts y = small();
        due("never loaded", y.load(1, true), NOT_POSSIBLE);
        due("loaded", y.load(0, true), 75);
        due("thrown away already", y.load(0, true), NOT_POSSIBLE);
        y.undo();
        due("undone", y.load(0, true), 75);
    }

    // ---- promises 16 and 17

    private void ofListener() {
        of("16", "Returns something about a listener");
        NoticeShifts x = full();
        due("its bound", x.of(0, 1), 600);

        of("16", "- `what`: 0 the group, 1 the bound, 2 whether there is a file (1 or 0), 3 whether it is out of date"
            + " (0 without one), 4 the length of what is heard, 5 how many notices are heard, 6 how many seconds of"
            + " notices, 7 how many sentences");
        int[] first = {0, 600, 1, 0, 7800, 5, 600, 24};
        int[] last = {5, 600, 1, 0, 7800, 5, 600, 24};
        for (int what = 0; what < 8; what++) {
            due("of(0, " + what + ") of something full", full().of(0, what), first[what]);
            due("of(5, " + what + ") of something full", full().of(5, what), last[what]);
        }
        NoticeShifts y = sentences(1);
        y.listener(5, 0);
        int[] least = {5, 0, 0, 0, 1, 0, 0, 1};
        for (int what = 0; what < 8; what++) {
            due("of(0, " + what + ") of the least", y.of(0, what), least[what]);
        }
        y.change(0, 2);
        due("0 without a file", y.of(0, 3), 0);
        y.load(0, false);
        y.putIn(0, 3);
        int[] old = {5, 0, 1, 1, 2, 0, 0, 1};
        for (int what = 0; what < 8; what++) {
            due("of(0, " + what + ") with an old file", y.of(0, what), old[what]);
        }

        of("16", "Returns the number");
        due("of another one", full().of(1, 0), 1);
    }

    private void ofListenerErrors() {
        of("16", "NO_SUCH if there is no such listener");
        due("none at all", new NoticeShifts().of(0, 0), NO_SUCH);
        NoticeShifts x = small();
        for (int what = -1; what <= 8; what++) {
            int asked = what;
            each("what " + what, outside(0, 1), listener -> x.of(listener, asked), NO_SUCH);
        }
        due("the seventh of 6", full().of(6, 0), NO_SUCH);

        of("16", "BAD_VALUE if what is out of range");
        each("what with a file", outside(0, 7), what -> x.of(0, what), BAD_VALUE);
        each("what without a file", outside(0, 7), what -> x.of(1, what), BAD_VALUE);
    }

    private void count() {
        of("17", "Returns a number");
        due("one", new NoticeShifts().count(0), 1);

        of("17", "- `what`: 0 sentences, 1 the length of the episode, 2 chapters, 3 notices, 4 listeners, 5 listeners"
            + " whose files are out of date, as a set");
        NoticeShifts x = full();
        int[] most = {24, 7200, 24, 8, 6, 0, 0, 60, 6};
        for (int what = 0; what < 9; what++) {
            due("the most of " + what, x.count(what), most[what]);
        }
        x.change(23, 299);
        due("all files are out of date", x.count(5), 63);
        x.load(0, true);
        due("but one that is thrown away", x.count(5), 62);
        x.load(5, false);
        due("but one that is loaded", x.count(5), 30);

        of("17", "6 the listener who hears the longest, of several the lowest (NONE without listeners)");
        due("without listeners", new NoticeShifts().count(6), NONE);
        NoticeShifts y = notices(new NoticeShifts(), 5);
        y.listener(0, 4);
        due("the only one", y.count(6), 0);
        y.listener(0, 5);
        y.listener(0, 5);
        due("all alike", y.count(6), 0);
        y.book(0, 0);
        due("two alike", y.count(6), 1);
        y.load(2, false);
        y.change(0, 9);
        due("the file of the last one", y.count(6), 2);
        y.change(0, 11);
        due("the file is shorter", y.count(6), 1);
        y.empty(0);
        due("the file with its notice", y.count(6), 2);

        of("17", "7 the length of the pad, 8 how many changes can be undone");
        due("no pad, the most changes", y.count(8), 6);
        due("no pad", y.count(7), 0);
        y.put('0');
        due("one character", y.count(7), 1);
        y.undo();
        due("undone", y.count(8), 5);
    }

    private void countOfNothingAndOfAll() {
        of("17", "Returns the number");
        NoticeShifts x = new NoticeShifts();
        due("no files", x.count(5), 0);
        due("nothing to be undone", x.count(8), 0);

        of("17", "BAD_VALUE if what is out of range");
        each("what", outside(0, 8), x::count, BAD_VALUE);
        NoticeShifts most = full();
        each("what of something full", outside(0, 8), most::count, BAD_VALUE);
    }
}
