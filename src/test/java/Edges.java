import java.util.Arrays;
import java.util.function.IntUnaryOperator;
import java.util.function.Supplier;
import java.util.function.ToIntFunction;

/** Tests that name the sentence of the document which they are for. */
abstract class Edges {
    static final int NO_SUCH = NoticeShifts.NO_SUCH;
    static final int BAD_VALUE = NoticeShifts.BAD_VALUE;
    static final int BAD_TEXT = NoticeShifts.BAD_TEXT;
    static final int TOO_MANY = NoticeShifts.TOO_MANY;
    static final int NOT_POSSIBLE = NoticeShifts.NOT_POSSIBLE;
    static final int NONE = NoticeShifts.NONE;

    private final Document document;
    private final Checks checks;
    private String sentence = "";
    private int checksOfSentence = 1;

    Edges(Document document, Checks checks) {
        this.document = document;
        this.checks = checks;
    }

    abstract void testAll();

    /** The checks from here on are for this sentence, or these words of it. */
    final void of(String section, String words) {
        endOfSentence();
        sentence = section + " '" + words + "'";
        checksOfSentence = 0;
        checks.holds(sentence + " stands in the document", document.isIn(section, words));
    }

    final void endOfSentence() {
        checks.holds(sentence + " has a check", checksOfSentence > 0);
    }

    final void due(String call, long got, long want) {
        checksOfSentence++;
        checks.due(sentence + ": " + call, got, want);
    }

    final void same(String what, String got, String want) {
        due(what + " is the same", got.equals(want) ? 1 : 0, 1);
    }

    /** One argument of a call is each of these numbers, and the answer is the same. */
    final void each(String call, int[] arguments, IntUnaryOperator made, int want) {
        for (int argument : arguments) {
            due(call + " with " + argument, made.applyAsInt(argument), want);
        }
    }

    /** Numbers just beyond a range, and some far beyond it that a shift, a product or a cast brings back. */
    static int[] outside(int least, int most) {
        int[] far = {
            least - 1, most + 1, -1, Integer.MIN_VALUE, Integer.MAX_VALUE, Integer.MIN_VALUE + least, 1 << 30,
            -(1 << 30), (1 << 30) + least, least - 256, least + 256, least + 65536, least - 65536, -most, ~least};
        return Arrays.stream(far).filter(number -> number < least || number > most).distinct().toArray();
    }

    /** A change counts as one, and undo takes it back. */
    final void isChange(String call, Supplier<NoticeShifts> made, ToIntFunction<NoticeShifts> change) {
        Supplier<NoticeShifts> before = () -> withOneToUndo(made.get());
        Supplier<NoticeShifts> behind = () -> {
            NoticeShifts x = before.get();
            change.applyAsInt(x);
            return x;
        };
        Supplier<NoticeShifts> undone = () -> {
            NoticeShifts x = behind.get();
            x.undo();
            return x;
        };
        due(call + " is no error", change.applyAsInt(before.get()) >= 0 ? 1 : 0, 1);
        due("recorded by " + call, behind.get().count(8), 2);
        due("undo of " + call, behind.get().undo(), 1);
        same("what there is when " + call + " is undone", Picture.of(undone), Picture.of(before));
    }

    /** So that the history has room; the slot 1 is used for it. */
    private static NoticeShifts withOneToUndo(NoticeShifts x) {
        x.save(1);
        while (x.undo() > 0) {
            continue;
        }
        x.restore(1);
        return x;
    }

    /** Sentences of these lengths, the marks in their order. */
    static NoticeShifts sentences(int... lengths) {
        NoticeShifts x = new NoticeShifts();
        x.change(0, lengths[0]);
        for (int place = 1; place < lengths.length; place++) {
            x.putIn(place, lengths[place]);
        }
        return x;
    }

    static NoticeShifts sentencesOf(int number, int length) {
        int[] lengths = new int[number];
        Arrays.fill(lengths, length);
        return sentences(lengths);
    }

    /** Notices of these lengths for all groups. */
    static NoticeShifts notices(NoticeShifts x, int... lengths) {
        for (int length : lengths) {
            x.notice(length, 63);
        }
        return x;
    }

    static NoticeShifts rows(NoticeShifts x, String text) {
        x.wipe();
        Checks.putAll(x, text);
        x.read();
        return x;
    }

    static NoticeShifts pad(NoticeShifts x, String text) {
        Checks.putAll(x, text);
        return x;
    }

    /**
     * Three sentences of 11, 20 and 30 seconds, chapters at 0 and 2, two notices, two listeners, of which the
     * first has a file that is out of date, the slot 0 saved, and six changes to be undone.
     */
    static NoticeShifts small() {
        NoticeShifts x = sentences(10, 20, 30);
        x.chapter(2, true);
        x.notice(5, 63);
        x.notice(9, 1);
        x.listener(0, 100);
        x.listener(1, 14);
        x.book(1, 1);
        x.book(1, 0);
        x.save(0);
        x.load(0, false);
        x.change(0, 11);
        x.book(0, 0);
        return x;
    }

    /** All that the document leaves room for: nothing can be added any more. */
    static NoticeShifts full() {
        NoticeShifts x = sentencesOf(24, 300);
        for (int sentence = 1; sentence < 24; sentence++) {
            x.chapter(sentence, true);
        }
        notices(x, 120, 120, 120, 120, 120, 120, 120, 120);
        for (int place = 0; place < 96; place++) {
            x.book(place % 24, place % 8);
        }
        for (int listener = 0; listener < 6; listener++) {
            x.listener(listener, 600);
            x.load(listener, false);
        }
        x.save(0);
        return pad(x, "0123/".repeat(12));
    }
}
