/** The sentences under 'Episode' that are not about notices, and those of the promises 1 to 5, 12 and 13. */
final class EpisodeEdges extends Edges {
    EpisodeEdges(Document document, Checks checks) {
        super(document, checks);
    }

    @Override
    void testAll() {
        row();
        marks();
        times();
        chaptersBegin();
        chaptersOfSentencesPutIn();
        chapterNumbers();
        newObject();
        putIn();
        putInErrors();
        putInTooMany();
        cutOut();
        cutOutErrors();
        change();
        chapter();
        chapterErrors();
        sentence();
        marked();
    }

    // ---- Episode

    private void row() {
        of("Episode", "The episode is a row of 1 to 24 sentences");
        NoticeShifts x = new NoticeShifts();
        due("one at least", x.count(0), 1);
        due("cutOut of the last that is left", x.cutOut(0), NOT_POSSIBLE);
        for (int number = 2; number <= 24; number++) {
            x.putIn(number - 1, 5);
            due("then there are", x.count(0), number);
        }
        due("a 25th", x.putIn(24, 5), TOO_MANY);
        due("still 24", x.count(0), 24);
        x.cutOut(23);
        due("a 24th again", x.putIn(23, 5), 24);
        for (int number = 23; number >= 1; number--) {
            x.cutOut(number % 2 == 0 ? 0 : number);
            due("then there are left", x.count(0), number);
        }
        due("cutOut of the last that is left", x.cutOut(0), NOT_POSSIBLE);

        of("Episode", "each with a length (1 to 300)");
        NoticeShifts y = new NoticeShifts();
        y.putIn(1, 1);
        y.putIn(2, 300);
        due("the least", y.sentence(1, 1), 1);
        due("the most", y.sentence(2, 1), 300);
        due("none of 0", y.putIn(1, 0), BAD_VALUE);
        due("none of 301", y.putIn(1, 301), BAD_VALUE);
    }

    private void marks() {
        of("Episode", "a mark, a number by which it is known as long as it is there");
        NoticeShifts x = sentences(1, 2, 3);
        x.putIn(0, 4);
        due("the mark 1 has moved", x.marked(1), 2);
        due("its sentence", x.sentence(2, 1), 2);
        x.cutOut(0);
        due("the mark 1 has moved back", x.marked(1), 1);
        x.cutOut(1);
        due("the mark 1 is gone", x.marked(1), NO_SUCH);
        due("the mark 1 is not given again", x.putIn(1, 5), 4);

        of("Episode", "the first one that is ever put in has the mark 0, the next one 1, and so on (at most 99)");
        NoticeShifts y = new NoticeShifts();
        due("the first one", y.sentence(0, 0), 0);
        for (int mark = 1; mark <= 99; mark++) {
            due("the next one", y.putIn(0, 5), mark);
            due("known by it", y.marked(mark), 0);
            if (mark < 99) {
                y.cutOut(0);
            }
        }
        due("none behind 99", y.putIn(0, 5), TOO_MANY);
        due("known by 99", y.marked(99), 0);
        due("nothing known by 100", y.marked(100), NO_SUCH);

        of("Episode", "At first there is one sentence, of 10 seconds, with the mark 0");
        NoticeShifts z = new NoticeShifts();
        due("how many", z.count(0), 1);
        due("its length", z.sentence(0, 1), 10);
        due("its mark", z.sentence(0, 0), 0);
    }

    private void times() {
        of("Episode", "The time of a sentence is the sum of the lengths of those ahead of it");
        NoticeShifts x = sentences(7, 20, 1);
        due("the first one", x.sentence(0, 2), 0);
        due("the second one", x.sentence(1, 2), 7);
        due("the last one", x.sentence(2, 2), 27);
        x.change(2, 300);
        due("its own length is not in it", x.sentence(2, 2), 27);
        x.change(0, 8);
        due("one ahead longer", x.sentence(2, 2), 28);
        x.cutOut(1);
        due("one ahead less", x.sentence(1, 2), 8);
        NoticeShifts y = notices(sentencesOf(24, 300), 120);
        y.listener(0, 600);
        y.book(0, 0);
        due("the 24th of the longest episode, without notices", y.sentence(23, 2), 6900);
        due("the longest episode", y.count(1), 7200);
    }

    private void chaptersBegin() {
        of("Episode", "A sentence begins a chapter, or not");
        NoticeShifts x = sentences(10, 10);
        due("not", x.sentence(1, 4), 0);
        x.chapter(1, true);
        due("begins", x.sentence(1, 4), 1);
        x.chapter(1, false);
        due("not again", x.sentence(1, 4), 0);

        of("Episode", "the first one always does");
        due("the first one", x.sentence(0, 4), 1);
        due("it can't be changed", x.chapter(0, false), NOT_POSSIBLE);
        due("and still does", x.sentence(0, 4), 1);
        x.cutOut(0);
        due("the next one, as the first", x.sentence(0, 4), 1);
        due("it can't be changed", x.chapter(0, false), NOT_POSSIBLE);
        x.undo();
        due("the next one when it is not the first again", x.sentence(1, 4), 0);
    }

    private void chaptersOfSentencesPutIn() {
        of("Episode", "A sentence that is put in begins none, but as the first one");
        NoticeShifts x = sentences(10, 10);
        x.chapter(1, true);
        x.putIn(1, 5);
        due("between two that do", x.sentence(1, 4), 0);
        due("as many chapters as before", x.count(2), 2);
        x.putIn(3, 5);
        due("at the end", x.sentence(3, 4), 0);
        x.putIn(0, 5);
        due("as the first one", x.sentence(0, 4), 1);

        of("Episode", "the one that was first ahead of that goes on beginning one");
        due("the second one", x.sentence(1, 4), 1);
        due("one chapter more", x.count(2), 3);
        due("now it can be changed", x.chapter(1, false), 2);
        x.putIn(0, 5);
        due("a third one does not begin one", x.sentence(2, 4), 0);
        due("the second one does", x.sentence(1, 4), 1);
    }

    private void chapterNumbers() {
        of("Episode", "Chapters are numbered in their order");
        NoticeShifts x = sentencesOf(24, 5);
        for (int sentence = 23; sentence > 0; sentence--) {
            due("then there are", x.chapter(sentence, true), 25 - sentence);
        }
        for (int sentence = 0; sentence < 24; sentence++) {
            due("the chapter of " + sentence, x.sentence(sentence, 3), sentence);
        }
        x.chapter(1, false);
        due("in the chapter ahead", x.sentence(1, 3), 0);
        due("the next one", x.sentence(2, 3), 1);
        due("the last one", x.sentence(23, 3), 22);
        x.cutOut(0);
        due("the new first one", x.sentence(0, 3), 0);
        due("the last one is as it was", x.sentence(22, 3), 22);
        x.cutOut(0);
        due("a chapter less", x.sentence(21, 3), 21);
    }

    // ---- promises 1 to 5

    private void newObject() {
        of("1", "Creates an episode of one sentence");
        NoticeShifts x = new NoticeShifts();
        int[] counts = {1, 10, 1, 0, 0, 0, NONE, 0, 0};
        for (int what = 0; what < counts.length; what++) {
            due("count(" + what + ")", x.count(what), counts[what]);
        }
        due("no second sentence", x.sentence(1, 0), NO_SUCH);
        due("no notice", x.ofNotice(0, 0), NO_SUCH);
        due("no listener", x.of(0, 0), NO_SUCH);
        due("an empty break", x.booked(0, 0), NO_SUCH);
        due("an empty pad", x.fault(), 0);
        due("no history", x.undo(), NOT_POSSIBLE);
        due("nothing in the slot 0", x.restore(0), NOT_POSSIBLE);
        due("nothing in the slot 1", x.restore(1), NOT_POSSIBLE);
        x.change(0, 20);
        x.notice(5, 1);
        due("a second object has nothing of the first", new NoticeShifts().count(1), 10);
        due("a second object has nothing of the first", new NoticeShifts().count(3), 0);
    }

    private void putIn() {
        of("2", "Puts a sentence in");
        NoticeShifts x = sentences(1, 2);
        x.putIn(1, 3);
        due("the length", x.sentence(1, 1), 3);
        due("one more", x.count(0), 3);
        due("the one ahead stays", x.sentence(0, 1), 1);
        due("the one behind moves", x.sentence(2, 1), 2);

        of("2", "This is a change");
        isChange("putIn(0, 5)", Edges::small, y -> y.putIn(0, 5));
        isChange("putIn(3, 5)", Edges::small, y -> y.putIn(3, 5));

        of("2", "- `place`: 0 to the number of sentences: the place that it has then");
        due("the place 0", x.putIn(0, 5), 3);
        due("is then", x.marked(3), 0);
        due("the place behind the last", x.putIn(4, 5), 4);
        due("is then", x.marked(4), 4);
        each("the place", outside(0, 5), place -> x.putIn(place, 5), NO_SUCH);

        of("2", "- `length`: 1 to 300");
        due("the least", x.putIn(5, 1), 5);
        due("the most", x.putIn(6, 300), 6);
        each("the length", outside(1, 300), length -> x.putIn(0, length), BAD_VALUE);

        of("2", "Returns its mark");
        due("of a new object", new NoticeShifts().putIn(0, 5), 1);
        due("the next one, wherever", x.putIn(3, 5), 7);
    }

    private void putInErrors() {
        of("2", "NO_SUCH if there is no such place");
        NoticeShifts x = new NoticeShifts();
        due("2 of one", x.putIn(2, 5), NO_SUCH);
        due("-1", x.putIn(-1, 5), NO_SUCH);
        due("with a length out of range", x.putIn(2, 0), NO_SUCH);
        NoticeShifts most = sentencesOf(24, 5);
        due("25 of 24", most.putIn(25, 5), NO_SUCH);

        of("2", "BAD_VALUE if length is out of range");
        due("0", x.putIn(1, 0), BAD_VALUE);
        due("301", x.putIn(0, 301), BAD_VALUE);
        due("with 24 sentences", most.putIn(24, 0), BAD_VALUE);
    }

    private void putInTooMany() {
        of("2", "TOO_MANY if there are 24 sentences, or all marks up to 99 were given");
        NoticeShifts x = sentencesOf(23, 5);
        due("a 24th", x.putIn(23, 5), 23);
        for (int place = 0; place <= 24; place++) {
            due("a 25th at " + place, x.putIn(place, 5), TOO_MANY);
        }
        x.cutOut(5);
        due("behind a cut", x.putIn(5, 5), 24);
        due("a 25th", x.putIn(5, 5), TOO_MANY);
        for (int mark = 25; mark <= 99; mark++) {
            x.cutOut(0);
            due("the mark", x.putIn(0, 5), mark);
        }
        x.cutOut(0);
        due("no mark is left, though there is room", x.putIn(0, 5), TOO_MANY);
        due("a length out of range comes first", x.putIn(0, 0), BAD_VALUE);
        x.undo();
        x.undo();
        due("the mark 99 is not given any more", x.putIn(0, 5), 99);
    }

    private void cutOut() {
        of("3", "Cuts a sentence out");
        NoticeShifts x = sentences(1, 2, 3, 4);
        x.cutOut(1);
        due("one less", x.count(0), 3);
        due("the next one in its place", x.sentence(1, 1), 3);
        due("the last one", x.sentence(2, 1), 4);
        due("no fourth one", x.sentence(3, 1), NO_SUCH);
        NoticeShifts most = sentencesOf(24, 5);
        due("the 24th", most.cutOut(23), 23);
        due("the first of 23", most.cutOut(0), 0);
        due("the last of 22", most.cutOut(21), 22);

        of("3", "(If it was the first one, the next one begins a chapter.)");
        due("cut", x.cutOut(0), 0);
        due("the next one", x.sentence(0, 4), 1);
        due("one chapter", x.count(2), 1);
        x.chapter(1, true);
        x.cutOut(0);
        due("a next one that began one already", x.sentence(0, 4), 1);
        due("one chapter", x.count(2), 1);
        NoticeShifts y = sentences(1, 2, 3);
        y.chapter(1, true);
        y.cutOut(1);
        due("not the first one: its chapter goes", y.sentence(1, 4), 0);

        of("3", "This is a change");
        isChange("cutOut(0)", Edges::small, z -> z.cutOut(0));
        isChange("cutOut(2)", Edges::small, z -> z.cutOut(2));

        of("3", "Returns its mark");
        NoticeShifts marked = sentences(1, 2);
        marked.putIn(0, 3);
        due("the first one", marked.cutOut(0), 2);
        due("the last one", marked.cutOut(1), 1);
    }

    private void cutOutErrors() {
        of("3", "NO_SUCH if there is no such sentence");
        NoticeShifts x = sentences(1, 2, 3);
        each("cutOut", outside(0, 2), x::cutOut, NO_SUCH);
        NoticeShifts one = new NoticeShifts();
        each("cutOut of one", outside(0, 0), one::cutOut, NO_SUCH);

        of("3", "NOT_POSSIBLE if it is the only one");
        due("a new object", one.cutOut(0), NOT_POSSIBLE);
        x.cutOut(2);
        due("one of two", x.cutOut(0), 0);
        due("the one that is left", x.cutOut(0), NOT_POSSIBLE);
        due("it is there", x.sentence(0, 0), 1);
    }

    private void change() {
        of("4", "Changes the length of a sentence");
        NoticeShifts x = sentences(10, 20, 30);
        x.change(1, 5);
        due("of this one", x.sentence(1, 1), 5);
        due("not of the one ahead", x.sentence(0, 1), 10);
        due("not of the one behind", x.sentence(2, 1), 30);

        of("4", "This is a change");
        isChange("change(2, 1)", Edges::small, y -> y.change(2, 1));
        isChange("change to the same length", Edges::small, y -> y.change(0, 11));

        of("4", "- `length`: 1 to 300");
        due("the least", x.change(0, 1), 10);
        due("the most", x.change(0, 300), 1);
        each("the length", outside(1, 300), length -> x.change(0, length), BAD_VALUE);

        of("4", "Returns the previous one");
        due("the most", x.change(0, 9), 300);
        due("the same", x.change(0, 9), 9);
        due("of the last sentence", x.change(2, 9), 30);

        of("4", "NO_SUCH if there is no such sentence");
        each("the sentence", outside(0, 2), sentence -> x.change(sentence, 5), NO_SUCH);
        due("with a length out of range", x.change(3, 301), NO_SUCH);

        of("4", "BAD_VALUE if length is out of range");
        due("0", x.change(2, 0), BAD_VALUE);
        due("301", x.change(2, 301), BAD_VALUE);
        due("the length stays", x.sentence(2, 1), 9);
    }

    private void chapter() {
        of("5", "Lets a sentence begin a chapter, or not");
        NoticeShifts x = sentencesOf(24, 5);
        due("begins", x.chapter(23, true), 2);
        due("begins", x.sentence(23, 4), 1);
        due("not", x.chapter(23, false), 1);
        due("not", x.sentence(23, 4), 0);

        of("5", "This is a change");
        isChange("chapter(1, true)", Edges::small, y -> y.chapter(1, true));
        isChange("chapter(2, false)", Edges::small, y -> y.chapter(2, false));

        of("5", "Returns how many chapters there are then");
        for (int sentence = 1; sentence < 24; sentence++) {
            due("more", x.chapter(sentence, true), sentence + 1);
        }
        due("as many are counted", x.count(2), 24);
        for (int sentence = 1; sentence < 24; sentence++) {
            due("less", x.chapter(sentence, false), 24 - sentence);
        }
        due("as many are counted", x.count(2), 1);
    }

    private void chapterErrors() {
        of("5", "NO_SUCH if there is no such sentence");
        NoticeShifts x = sentences(1, 2, 3);
        each("begins", outside(0, 2), sentence -> x.chapter(sentence, true), NO_SUCH);
        each("not", outside(0, 2), sentence -> x.chapter(sentence, false), NO_SUCH);

        of("5", "NOT_POSSIBLE if it is so already, or it is the first sentence");
        due("begins none already", x.chapter(2, false), NOT_POSSIBLE);
        x.chapter(2, true);
        due("begins one already", x.chapter(2, true), NOT_POSSIBLE);
        due("the first one", x.chapter(0, true), NOT_POSSIBLE);
        due("the first one", x.chapter(0, false), NOT_POSSIBLE);
        due("the only one", new NoticeShifts().chapter(0, false), NOT_POSSIBLE);
        x.putIn(0, 5);
        due("the one that was first", x.chapter(1, true), NOT_POSSIBLE);
        due("the one that was first, not any more", x.chapter(1, false), 2);
    }

    // ---- promises 12 and 13

    private void sentence() {
        of("12", "Returns something about a sentence");
        NoticeShifts x = notices(sentences(10, 20, 30), 5);
        x.putIn(0, 7);
        due("its number for the mark 3", x.sentence(0, 0), 3);

        of("12", "- `what`: 0 its mark, 1 its length, 2 its time, 3 its chapter, 4 whether it begins it (1 or 0),"
            + " 5 how many notices the row of its break has");
        x.chapter(3, true);
        for (int number = 0; number < 4; number++) {
            x.book(3, 0);
        }
        x.book(2, 0);
        int[][] all = {{3, 7, 0, 0, 1, 0}, {0, 10, 7, 1, 1, 0}, {1, 20, 17, 1, 0, 1}, {2, 30, 37, 2, 1, 4}};
        for (int sentence = 0; sentence < 4; sentence++) {
            for (int what = 0; what < 6; what++) {
                due("sentence(" + sentence + ", " + what + ")", x.sentence(sentence, what), all[sentence][what]);
            }
        }

        of("12", "Returns the number");
        due("the least", x.sentence(0, 2), 0);
        due("the most", sentencesOf(24, 300).sentence(23, 2), 6900);

        of("12", "NO_SUCH if there is no such sentence");
        for (int what = -1; what <= 6; what++) {
            int asked = what;
            each("what " + what, outside(0, 3), sentence -> x.sentence(sentence, asked), NO_SUCH);
        }

        of("12", "BAD_VALUE if what is out of range");
        each("what", outside(0, 5), what -> x.sentence(3, what), BAD_VALUE);
    }

    private void marked() {
        of("13", "Returns the sentence with a mark");
        NoticeShifts x = sentences(1, 2, 3);
        x.putIn(0, 4);
        due("the last mark", x.marked(3), 0);
        due("the first mark", x.marked(0), 1);

        of("13", "Returns the sentence");
        due("the mark 2", x.marked(2), 3);
        due("the 24th", sentencesOf(24, 5).marked(23), 23);

        of("13", "NO_SUCH if there is none");
        each("the mark", outside(0, 3), x::marked, NO_SUCH);
        x.cutOut(3);
        due("the mark of one that was cut out at the end", x.marked(2), NO_SUCH);
        x.cutOut(0);
        due("the mark of one that was cut out at first", x.marked(3), NO_SUCH);
        x.undo();
        due("there again", x.marked(3), 0);
        x.undo();
        x.undo();
        due("not yet put in", x.marked(3), NO_SUCH);
    }
}
