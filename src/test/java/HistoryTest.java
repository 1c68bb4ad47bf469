import java.util.function.Supplier;

/** Promises 30 to 32: undo and saved states. */
public final class HistoryTest {
    private static final int NO_SUCH = NoticeShifts.NO_SUCH;
    private static final int BAD_VALUE = NoticeShifts.BAD_VALUE;
    private static final int NOT_POSSIBLE = NoticeShifts.NOT_POSSIBLE;
    private static final int CHANGES = 12;

    private static final Checks checks = new Checks();

    public static void main(String[] args) {
        undo();
        sixStates();
        eachChangeIsRecorded();
        changesWithoutDifference();
        errorsAreNotRecorded();
        undoLeavesPadAndSlots();
        save();
        saveOfASecondState();
        restore();
        restoreBringsAllBack();
        checks.finish();
    }

    private static void undo() {
        NoticeShifts x = new NoticeShifts();
        checks.due("30: none", x.undo(), NOT_POSSIBLE);
        x.change(0, 20);
        x.putIn(0, 5);
        checks.due("30: one is left", x.undo(), 1);
        checks.due("30: one sentence", x.count(0), 1);
        checks.due("30: of 20", x.sentence(0, 1), 20);
        checks.due("30: none is left", x.undo(), 0);
        checks.due("30: of 10", x.sentence(0, 1), 10);
        checks.due("30: none", x.undo(), NOT_POSSIBLE);
        checks.due("2: the mark is free again", x.putIn(0, 5), 1);
        checks.due("17: one can be undone", x.count(8), 1);
    }

    private static void sixStates() {
        NoticeShifts x = new NoticeShifts();
        for (int length = 11; length <= 20; length++) {
            x.change(0, length);
        }
        checks.due("30: six", x.count(8), 6);
        for (int left = 5; left >= 0; left--) {
            checks.due("30: undone", x.undo(), left);
            checks.due("30: the length of before", x.sentence(0, 1), 14 + left);
        }
        checks.due("30: the oldest ones were dropped", x.undo(), NOT_POSSIBLE);
        checks.due("30: the oldest ones were dropped", x.sentence(0, 1), 14);
        x.change(0, 1);
        x.change(0, 2);
        checks.due("30: undone", x.undo(), 1);
        checks.due("30: the length of before", x.sentence(0, 1), 1);
    }

    /** A state with something of everything, saved in the slot 0, with one change to be undone. */
    private static NoticeShifts full() {
        NoticeShifts x = new NoticeShifts();
        x.putIn(1, 20);
        x.putIn(2, 30);
        x.notice(5, 63);
        x.notice(9, 1);
        x.listener(0, 100);
        x.listener(1, 100);
        x.book(1, 1);
        x.book(1, 0);
        x.load(0, false);
        x.change(0, 11);
        x.chapter(2, true);
        x.save(0);
        while (x.undo() > 0) {
            continue;
        }
        x.restore(0);
        return x;
    }

    private static int make(NoticeShifts x, int change) {
        switch (change) {
            case 0: return x.putIn(1, 5);
            case 1: return x.cutOut(0);
            case 2: return x.change(0, 300);
            case 3: return x.chapter(1, true);
            case 4: return x.notice(7, 7);
            case 5: return x.book(0, 1);
            case 6: return x.empty(1);
            case 7: return x.read();
            case 8: return x.listener(3, 30);
            case 9: return x.load(1, false);
            case 10: return x.load(0, true);
            default: return x.restore(1);
        }
    }

    private static void eachChangeIsRecorded() {
        for (int number = 0; number < CHANGES; number++) {
            int change = number;
            Supplier<NoticeShifts> before = HistoryTest::readyForAllChanges;
            Supplier<NoticeShifts> behind = () -> {
                NoticeShifts x = before.get();
                make(x, change);
                return x;
            };
            Supplier<NoticeShifts> undone = () -> {
                NoticeShifts x = behind.get();
                x.undo();
                return x;
            };
            checks.due("30: one state ahead of change " + change, before.get().count(8), 1);
            checks.holds("30: no error of change " + change, make(before.get(), change) >= 0);
            checks.due("30: change " + change + " is recorded", behind.get().count(8), 2);
            checks.holds("30: change " + change + " is one", !Picture.of(behind).equals(Picture.of(before)));
            checks.due("30: undo of change " + change, behind.get().undo(), 1);
            checks.holds("30: as before change " + change, Picture.of(undone).equals(Picture.of(before)));
        }
    }

    private static NoticeShifts readyForAllChanges() {
        NoticeShifts x = full();
        x.change(1, 21);
        x.save(1);
        x.undo();
        Checks.putAll(x, "1/./0");
        return x;
    }

    private static void changesWithoutDifference() {
        NoticeShifts x = new NoticeShifts();
        x.change(0, 10);
        checks.due("30: the same length", x.count(8), 1);
        x.empty(0);
        checks.due("30: an empty row", x.count(8), 2);
        x.save(1);
        checks.due("30: save is none", x.count(8), 2);
        x.restore(1);
        checks.due("30: the same state", x.count(8), 3);
        x.put('.');
        checks.due("30: put is none", x.count(8), 3);
        x.read();
        checks.due("30: an empty row read", x.count(8), 4);
        x.wipe();
        checks.due("30: wipe is none", x.count(8), 4);
    }

    private static void errorsAreNotRecorded() {
        for (int answer : errors(full())) {
            checks.holds("30: an error", answer < 0);
        }
        Supplier<NoticeShifts> behind = () -> {
            NoticeShifts x = full();
            errors(x);
            return x;
        };
        checks.due("30: no error recorded", behind.get().count(8), 1);
        checks.holds("30: no error changes anything", Picture.of(behind).equals(Picture.of(HistoryTest::full)));
    }

    private static int[] errors(NoticeShifts x) {
        return new int[] {
            x.putIn(4, 5), x.putIn(0, 0), x.cutOut(3), x.change(3, 5), x.change(0, 0), x.chapter(3, true),
            x.chapter(2, true), x.notice(0, 1), x.book(3, 0), x.book(0, 2), x.empty(3), x.read(),
            x.listener(6, 0), x.load(2, false), x.load(1, true), x.restore(1), x.restore(2), x.save(2)};
    }

    private static void undoLeavesPadAndSlots() {
        NoticeShifts x = new NoticeShifts();
        x.change(0, 20);
        x.save(0);
        x.put(Checks.packed("0/1"));
        x.undo();
        checks.due("30: the pad stays", x.count(7), 3);
        checks.due("30: the slot stays", x.restore(0), 1);
        checks.due("30: the slot stays", x.sentence(0, 1), 20);
        x.wipe();
        x.undo();
        checks.due("30: the pad stays wiped", x.count(7), 0);
    }

    private static void save() {
        NoticeShifts x = new NoticeShifts();
        checks.due("31: slot 2", x.save(2), BAD_VALUE);
        checks.due("31: slot -1", x.save(-1), BAD_VALUE);
        checks.due("31: slot 0", x.save(0), 1);
        x.putIn(0, 5);
        checks.due("31: slot 1", x.save(1), 2);
        checks.due("31: no change", x.count(8), 1);
        x.putIn(0, 6);
        checks.due("32: slot 0", x.restore(0), 1);
        checks.due("32: slot 1", x.restore(1), 2);
        checks.due("32: slot 1", x.sentence(0, 1), 5);
    }

    private static void saveOfASecondState() {
        NoticeShifts x = new NoticeShifts();
        x.save(1);
        x.putIn(1, 5);
        x.putIn(1, 6);
        checks.due("31: overwrites", x.save(1), 3);
        x.cutOut(0);
        checks.due("32: what was saved last", x.restore(1), 3);
        x.change(0, 7);
        checks.due("32: the slot keeps it", x.restore(1), 3);
        checks.due("32: as it was", x.sentence(0, 1), 10);
        checks.due("32: nothing in the other slot", x.restore(0), NOT_POSSIBLE);
    }

    private static void restore() {
        NoticeShifts x = new NoticeShifts();
        checks.due("32: slot 2", x.restore(2), BAD_VALUE);
        checks.due("32: slot -1", x.restore(-1), BAD_VALUE);
        checks.due("32: nothing saved", x.restore(0), NOT_POSSIBLE);
        x.save(0);
        x.putIn(1, 5);
        x.put('.');
        checks.due("32: restored", x.restore(0), 1);
        checks.due("32: the pad stays", x.count(7), 1);
        checks.due("32: recorded", x.count(8), 2);
        checks.due("32: the marks are as they were", x.putIn(0, 5), 1);
        x.undo();
        checks.due("30: undone", x.undo(), 1);
        checks.due("30: two sentences again", x.count(0), 2);
        checks.due("30: the slot stays", x.restore(0), 1);
        checks.due("13: not there", x.marked(1), NO_SUCH);
    }

    private static void restoreBringsAllBack() {
        Supplier<NoticeShifts> changed = () -> {
            NoticeShifts x = full();
            for (int change = 0; change < CHANGES - 1; change++) {
                Checks.putAll(x, "1/./0");
                make(x, change);
            }
            return x;
        };
        Supplier<NoticeShifts> restored = () -> {
            NoticeShifts x = changed.get();
            x.restore(0);
            return x;
        };
        checks.holds("32: much has changed", !Picture.of(changed).equals(Picture.of(HistoryTest::full)));
        checks.due("32: restored", changed.get().restore(0), 3);
        checks.holds("32: all is as it was", Picture.of(restored).equals(Picture.of(HistoryTest::full)));
        checks.due("32: the next mark, too", restored.get().putIn(0, 5), 3);
    }
}
