import java.util.function.Supplier;
import java.util.function.ToIntFunction;

/** The sentences under 'CONVENTIONS'. */
final class ConventionEdges extends Edges {
    ConventionEdges(Document document, Checks checks) {
        super(document, checks);
    }

    @Override
    void testAll() {
        constants();
        errorCodes();
        orderOfErrorsOfChanges();
        orderOfErrorsOfLooks();
        errorsChangeNothing();
        errorsOfSomethingFullChangeNothing();
        looksChangeNothing();
        noneIsNoError();
        numberedFromZero();
        setsAreBitMasks();
        timesAreSeconds();
    }

    private void constants() {
        of("Texts", "The constants: `NO_SUCH = -1, BAD_VALUE = -2, BAD_TEXT = -3, TOO_MANY = -4, NOT_POSSIBLE = -5,"
            + " NONE = -6`");
        due("NO_SUCH", NoticeShifts.NO_SUCH, -1);
        due("BAD_VALUE", NoticeShifts.BAD_VALUE, -2);
        due("BAD_TEXT", NoticeShifts.BAD_TEXT, -3);
        due("TOO_MANY", NoticeShifts.TOO_MANY, -4);
        due("NOT_POSSIBLE", NoticeShifts.NOT_POSSIBLE, -5);
        due("NONE", NoticeShifts.NONE, -6);
    }

    private void errorCodes() {
        of("Terms", "A method that fails returns one of the error codes NO_SUCH (-1), BAD_VALUE (-2), BAD_TEXT (-3),"
            + " TOO_MANY (-4) and NOT_POSSIBLE (-5)");
        NoticeShifts x = new NoticeShifts();
        due("cutOut(1)", x.cutOut(1), -1);
        due("change(0, 0)", x.change(0, 0), -2);
        due("read()", x.read(), -3);
        due("putIn(0, 5) of 24", sentencesOf(24, 5).putIn(0, 5), -4);
        due("undo()", x.undo(), -5);
    }

    private void orderOfErrorsOfChanges() {
        of("Terms", "it names its errors in the order in which they are checked, and the first one that applies is"
            + " returned");
        NoticeShifts x = full();
        due("putIn: no place, no length, too many", x.putIn(25, 0), NO_SUCH);
        due("putIn: no place, too many", x.putIn(-1, 5), NO_SUCH);
        due("putIn: no length, too many", x.putIn(24, 301), BAD_VALUE);
        due("putIn: too many", x.putIn(24, 300), TOO_MANY);
        due("notice: no length, too many", x.notice(121, 1), BAD_VALUE);
        due("notice: no groups, too many", x.notice(1, 0), BAD_VALUE);
        due("notice: too many", x.notice(1, 1), TOO_MANY);
        due("book: no sentence, or the row of another one has 4", x.book(24, 0), NO_SUCH);
        due("book: no notice, the row has 4", x.book(0, 8), NO_SUCH);
        due("book: the row has 4", x.book(0, 7), TOO_MANY);
        due("listener: no group, too many", x.listener(6, 0), BAD_VALUE);
        due("listener: no bound, too many", x.listener(0, 601), BAD_VALUE);
        due("listener: too many", x.listener(0, 600), TOO_MANY);
        due("put: no character, too long", x.put(0), BAD_VALUE);
        due("put: no good code, too long", x.put(32), BAD_VALUE);
        due("put: too long", x.put(33), TOO_MANY);
        NoticeShifts y = new NoticeShifts();
        due("cutOut: no sentence, and there is only one", y.cutOut(1), NO_SUCH);
        due("change: no sentence, no length", y.change(1, 0), NO_SUCH);
        due("chapter: no sentence, and it begins none already", y.chapter(1, false), NO_SUCH);
        due("load: no listener, and no file", y.load(0, true), NO_SUCH);
        due("read: a fault, no sentence, no notice", pad(new NoticeShifts(), "0/0/").read(), BAD_TEXT);
        due("read: no sentence, no notice", pad(new NoticeShifts(), "0/0").read(), NO_SUCH);
        due("restore: no slot, and nothing saved", y.restore(2), BAD_VALUE);
        due("restore: nothing saved", y.restore(1), NOT_POSSIBLE);
    }

    private void orderOfErrorsOfLooks() {
        NoticeShifts x = full();
        due("sentence: no sentence, no what", x.sentence(24, 6), NO_SUCH);
        due("ofNotice: no notice, no what", x.ofNotice(8, 4), NO_SUCH);
        due("of: no listener, no what", x.of(6, 8), NO_SUCH);
        due("whenHeard: no listener, no time", x.whenHeard(6, 7200), NO_SUCH);
        due("heardAt: no listener, no time, no what", x.heardAt(6, 10000, 4), NO_SUCH);
        due("heardAt: no time, no what", x.heardAt(0, 10000, 4), BAD_VALUE);
        due("heardAt: no what, all over", x.heardAt(0, 9999, 4), BAD_VALUE);
        due("heardAt: all over", x.heardAt(0, 9999, 3), NOT_POSSIBLE);
        due("open: no listener, no seconds, no mark", x.open(6, 24, 300), NO_SUCH);
        due("open: no seconds, no mark", x.open(0, 24, 300), BAD_VALUE);
        due("open: no mark", x.open(0, 24, 299), NOT_POSSIBLE);
        due("wrongAt: no listener, no time", x.wrongAt(6, 0, 10000), NO_SUCH);
        due("wrongAt: no other listener, no time", x.wrongAt(0, 6, -1), NO_SUCH);
        due("wrongAt: no other listener, all over", x.wrongAt(0, 6, 9999), NO_SUCH);
        due("wrongAt: no time, all over", x.wrongAt(0, 1, 10000), BAD_VALUE);
        due("wrongAt: all over", x.wrongAt(0, 1, 9999), NOT_POSSIBLE);
        due("ifBooked: no notice, the row has 4", x.ifBooked(0, 8), NO_SUCH);
        due("ifBooked: no sentence, other rows have 4", x.ifBooked(24, 0), NO_SUCH);
        due("ifBooked: the row has 4", x.ifBooked(0, 0), TOO_MANY);
        due("bestBreak: no notice, no what, all rows have 4", x.bestBreak(8, 2), NO_SUCH);
        due("bestBreak: no what, all rows have 4", x.bestBreak(7, 2), BAD_VALUE);
        due("bestBreak: all rows have 4", x.bestBreak(7, 1), NONE);
    }

    private void errorsChangeNothing() {
        of("Terms", "A call that returns an error changes nothing");
        errorsOfChanges(Edges::small);
        errorsOfLooks(Edges::small);
        Supplier<NoticeShifts> fresh = NoticeShifts::new;
        changesNothing("cutOut of the only one", fresh, x -> x.cutOut(0), NOT_POSSIBLE);
        changesNothing("undo of nothing", fresh, NoticeShifts::undo, NOT_POSSIBLE);
        changesNothing("read of an empty pad", fresh, NoticeShifts::read, BAD_TEXT);
        changesNothing("restore of nothing", fresh, x -> x.restore(0), NOT_POSSIBLE);
        changesNothing("read with a fault", () -> pad(small(), "0/1/"), NoticeShifts::read, BAD_TEXT);
        changesNothing("read of a row too many", () -> pad(small(), "0/1/./."), NoticeShifts::read, NO_SUCH);
        changesNothing("read of no notice", () -> pad(small(), "0/1/2"), NoticeShifts::read, NO_SUCH);
        changesNothing("putIn without a mark", () -> withMarksGiven(99), x -> x.putIn(0, 5), TOO_MANY);
    }

    private void errorsOfChanges(Supplier<NoticeShifts> made) {
        changesNothing("putIn(4, 5)", made, x -> x.putIn(4, 5), NO_SUCH);
        changesNothing("putIn(0, 0)", made, x -> x.putIn(0, 0), BAD_VALUE);
        changesNothing("putIn(0, 301)", made, x -> x.putIn(0, 301), BAD_VALUE);
        changesNothing("cutOut(3)", made, x -> x.cutOut(3), NO_SUCH);
        changesNothing("change(3, 5)", made, x -> x.change(3, 5), NO_SUCH);
        changesNothing("change(0, 0)", made, x -> x.change(0, 0), BAD_VALUE);
        changesNothing("change(0, 301)", made, x -> x.change(0, 301), BAD_VALUE);
        changesNothing("chapter(3, true)", made, x -> x.chapter(3, true), NO_SUCH);
        changesNothing("chapter(2, true)", made, x -> x.chapter(2, true), NOT_POSSIBLE);
        changesNothing("chapter(1, false)", made, x -> x.chapter(1, false), NOT_POSSIBLE);
        changesNothing("chapter(0, true)", made, x -> x.chapter(0, true), NOT_POSSIBLE);
        changesNothing("chapter(0, false)", made, x -> x.chapter(0, false), NOT_POSSIBLE);
        changesNothing("notice(0, 1)", made, x -> x.notice(0, 1), BAD_VALUE);
        changesNothing("notice(5, 64)", made, x -> x.notice(5, 64), BAD_VALUE);
        changesNothing("book(3, 0)", made, x -> x.book(3, 0), NO_SUCH);
        changesNothing("book(0, 2)", made, x -> x.book(0, 2), NO_SUCH);
        changesNothing("empty(3)", made, x -> x.empty(3), NO_SUCH);
        changesNothing("read()", made, NoticeShifts::read, BAD_TEXT);
        changesNothing("listener(6, 0)", made, x -> x.listener(6, 0), BAD_VALUE);
        changesNothing("listener(0, 601)", made, x -> x.listener(0, 601), BAD_VALUE);
        changesNothing("load(2, false)", made, x -> x.load(2, false), NO_SUCH);
        changesNothing("load(2, true)", made, x -> x.load(2, true), NO_SUCH);
        changesNothing("load(1, true)", made, x -> x.load(1, true), NOT_POSSIBLE);
        changesNothing("put(0)", made, x -> x.put(0), BAD_VALUE);
        changesNothing("put of a good and a bad code", made, x -> x.put(0x3020), BAD_VALUE);
        changesNothing("put of a code beyond 0", made, x -> x.put(0x300030), BAD_VALUE);
        changesNothing("save(2)", made, x -> x.save(2), BAD_VALUE);
        changesNothing("restore(2)", made, x -> x.restore(2), BAD_VALUE);
        changesNothing("restore(1)", made, x -> x.restore(1), NOT_POSSIBLE);
    }

    private void errorsOfLooks(Supplier<NoticeShifts> made) {
        changesNothing("sentence(3, 0)", made, x -> x.sentence(3, 0), NO_SUCH);
        changesNothing("sentence(0, 6)", made, x -> x.sentence(0, 6), BAD_VALUE);
        changesNothing("marked(3)", made, x -> x.marked(3), NO_SUCH);
        changesNothing("booked(0, 1)", made, x -> x.booked(0, 1), NO_SUCH);
        changesNothing("ofNotice(2, 0)", made, x -> x.ofNotice(2, 0), NO_SUCH);
        changesNothing("ofNotice(0, 4)", made, x -> x.ofNotice(0, 4), BAD_VALUE);
        changesNothing("of(2, 0)", made, x -> x.of(2, 0), NO_SUCH);
        changesNothing("of(0, 8)", made, x -> x.of(0, 8), BAD_VALUE);
        changesNothing("count(9)", made, x -> x.count(9), BAD_VALUE);
        changesNothing("heard(2, 0)", made, x -> x.heard(2, 0), NO_SUCH);
        changesNothing("heard(0, 3)", made, x -> x.heard(0, 3), NO_SUCH);
        changesNothing("whenHeard(2, 0)", made, x -> x.whenHeard(2, 0), NO_SUCH);
        changesNothing("whenHeard(0, 7200)", made, x -> x.whenHeard(0, 7200), BAD_VALUE);
        changesNothing("heardAt(2, 0, 0)", made, x -> x.heardAt(2, 0, 0), NO_SUCH);
        changesNothing("heardAt(0, 10000, 0)", made, x -> x.heardAt(0, 10000, 0), BAD_VALUE);
        changesNothing("heardAt(0, 9999, 0)", made, x -> x.heardAt(0, 9999, 0), NOT_POSSIBLE);
        changesNothing("chapterAt(2, 0)", made, x -> x.chapterAt(2, 0), NO_SUCH);
        changesNothing("chapterAt(0, 2)", made, x -> x.chapterAt(0, 2), NO_SUCH);
        changesNothing("open(2, 0, 0)", made, x -> x.open(2, 0, 0), NO_SUCH);
        changesNothing("open(0, 0, 300)", made, x -> x.open(0, 0, 300), BAD_VALUE);
        changesNothing("open(0, 3, 0)", made, x -> x.open(0, 3, 0), NOT_POSSIBLE);
        changesNothing("wrongAt(0, 2, 0)", made, x -> x.wrongAt(0, 2, 0), NO_SUCH);
        changesNothing("wrongAt(0, 1, 10000)", made, x -> x.wrongAt(0, 1, 10000), BAD_VALUE);
        changesNothing("wrongAt(0, 1, 9999)", made, x -> x.wrongAt(0, 1, 9999), NOT_POSSIBLE);
        changesNothing("ifBooked(3, 0)", made, x -> x.ifBooked(3, 0), NO_SUCH);
        changesNothing("bestBreak(2, 0)", made, x -> x.bestBreak(2, 0), NO_SUCH);
        changesNothing("bestBreak(0, 2)", made, x -> x.bestBreak(0, 2), BAD_VALUE);
        changesNothing("enough(2)", made, x -> x.enough(2), NO_SUCH);
    }

    private void errorsOfSomethingFullChangeNothing() {
        Supplier<NoticeShifts> made = Edges::full;
        changesNothing("putIn", made, x -> x.putIn(0, 5), TOO_MANY);
        changesNothing("notice", made, x -> x.notice(5, 5), TOO_MANY);
        changesNothing("book", made, x -> x.book(23, 0), TOO_MANY);
        changesNothing("listener", made, x -> x.listener(0, 0), TOO_MANY);
        changesNothing("put", made, x -> x.put('0'), TOO_MANY);
        changesNothing("ifBooked", made, x -> x.ifBooked(23, 0), TOO_MANY);
        changesNothing("put of two where there is room for one", () -> pad(new NoticeShifts(), "0".repeat(59)),
            x -> x.put(0x3030), TOO_MANY);
    }

    private void looksChangeNothing() {
        Supplier<NoticeShifts> made = () -> pad(small(), "0/1");
        of("Texts", "nothing changes");
        changesNothing("sentence", made, x -> x.sentence(1, 2), 11);
        changesNothing("marked", made, x -> x.marked(2), 2);
        changesNothing("booked", made, x -> x.booked(1, 0), 1);
        changesNothing("ofNotice", made, x -> x.ofNotice(0, 3), 2);
        changesNothing("of", made, x -> x.of(0, 3), 1);
        changesNothing("count", made, x -> x.count(5), 1);
        changesNothing("heard", made, x -> x.heard(0, 1), 1);
        changesNothing("whenHeard", made, x -> x.whenHeard(0, 10), 19);
        changesNothing("heardAt", made, x -> x.heardAt(0, 10, 2), 1);
        changesNothing("chapterAt", made, x -> x.chapterAt(0, 1), 39);
        changesNothing("open", made, x -> x.open(0, 2, 0), 39);
        changesNothing("wrongAt", made, x -> x.wrongAt(0, 1, 19), 3);
        changesNothing("ifBooked", made, x -> x.ifBooked(0, 1), 10000);
        changesNothing("bestBreak", made, x -> x.bestBreak(1, 0), 0);
        changesNothing("enough", made, x -> x.enough(0), 14);
        changesNothing("fault", made, NoticeShifts::fault, NONE);
        changesNothing("bestBreak of full rows", Edges::full, x -> x.bestBreak(0, 0), NONE);
    }

    private void changesNothing(String call, Supplier<NoticeShifts> made, ToIntFunction<NoticeShifts> called, int answer) {
        due(call, called.applyAsInt(made.get()), answer);
        Supplier<NoticeShifts> behind = () -> {
            NoticeShifts x = made.get();
            called.applyAsInt(x);
            return x;
        };
        same("all behind " + call, Picture.withPadSlotsAndHistory(behind), Picture.withPadSlotsAndHistory(made));
    }

    private void noneIsNoError() {
        of("Terms", "NONE (-6) is not an error");
        NoticeShifts x = small();
        due("count(6) without listeners", new NoticeShifts().count(6), NONE);
        due("heard", x.heard(1, 2), NONE);
        due("whenHeard", x.whenHeard(1, 61), NONE);
        due("heardAt in a notice", x.heardAt(1, 0, 0), NONE);
        due("heardAt in a sentence", x.heardAt(1, 5, 1), NONE);
        due("fault", pad(x, "0").fault(), NONE);

        of("Terms", "it is returned only if no error applies");
        due("heard without a listener", x.heard(2, 2), NO_SUCH);
        due("heard without a sentence", x.heard(1, 3), NO_SUCH);
        due("whenHeard beyond all times", x.whenHeard(1, 7200), BAD_VALUE);
        due("whenHeard without a listener", x.whenHeard(2, 61), NO_SUCH);
        due("heardAt with a what that is not there", x.heardAt(1, 0, 4), BAD_VALUE);
        due("heardAt when all is over", x.heardAt(1, 66, 1), NOT_POSSIBLE);
        NoticeShifts rowsWithFour = rows(notices(new NoticeShifts(), 5), "0000");
        due("bestBreak", rowsWithFour.bestBreak(0, 0), NONE);
        due("bestBreak with a what that is not there", rowsWithFour.bestBreak(0, 2), BAD_VALUE);
        due("bestBreak of no notice", rowsWithFour.bestBreak(1, 0), NO_SUCH);
    }

    private void numberedFromZero() {
        of("Terms", "Everything is numbered from 0");
        NoticeShifts x = new NoticeShifts();
        due("the first sentence", x.sentence(0, 1), 10);
        due("the first mark", x.sentence(0, 0), 0);
        due("the first chapter", x.sentence(0, 3), 0);
        due("the first notice", x.notice(5, 1), 0);
        due("the first listener", x.listener(0, 600), 0);
        x.book(0, 0);
        due("the first place of a row", x.booked(0, 0), 0);
        due("the first time", x.heardAt(0, 0, 1), 0);
        due("the first slot", x.save(0), 1);
        due("the second slot", x.save(1), 1);
    }

    private void setsAreBitMasks() {
        of("Terms", "Sets are bit masks");
        NoticeShifts x = new NoticeShifts();
        for (int group = 0; group < 6; group++) {
            x.notice(10 + group, 1 << group);
            x.book(0, group);
            x.listener(group, 600);
            x.putIn(0, 10);
        }
        int heard = 0;
        for (int group = 0; group < 6; group++) {
            due("notices for the group " + group, x.of(group, 6), 10 + group);
            x.load(group, false);
            heard += x.ofNotice(group, 3);
        }
        due("each notice has one listener", heard, 6);
        x.empty(1);
        due("the last group is 32", x.count(5), 32);
        x.empty(6);
        due("the first group is 1", x.count(5), 33);
        x.change(0, 1);
        due("all are 63", x.count(5), 63);
    }

    private void timesAreSeconds() {
        of("Terms", "Times and lengths are seconds");
        NoticeShifts x = notices(sentences(1, 2), 1);
        x.listener(0, 600);
        x.book(1, 0);
        due("the length", x.of(0, 4), 4);
        due("the second 0", x.heardAt(0, 0, 2), 0);
        due("the second 1", x.heardAt(0, 1, 1), 0);
        due("the second 2", x.heardAt(0, 2, 0), 1);

        of("Terms", "a time is the beginning of a second");
        due("the second 3 is the last one", x.heardAt(0, 3, 0), 2);
        due("no second begins at 4", x.heardAt(0, 4, 0), NOT_POSSIBLE);
        due("no second of the sentences begins at 3", x.whenHeard(0, 3), NONE);
    }

    private static NoticeShifts withMarksGiven(int last) {
        NoticeShifts x = new NoticeShifts();
        for (int mark = 1; mark <= last; mark++) {
            x.putIn(1, 5);
            if (mark < last) {
                x.cutOut(1);
            }
        }
        return x;
    }
}
