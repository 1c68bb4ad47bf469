import java.util.function.Supplier;

/** The sentences of the promises 30 to 32, and that an object stands 512 calls. */
final class HistoryEdges extends Edges {
    HistoryEdges(Document document, Checks checks) {
        super(document, checks);
    }

    @Override
    void testAll() {
        undo();
        sixStates();
        theOldestIsDropped();
        undoErrors();
        save();
        saveErrors();
        restore();
        restoreErrors();
        manyCalls();
    }

    // ---- promise 30

    private void undo() {
        of("30", "Undoes the latest change: everything except the pad, the slots and the history is as it was before it");
        Supplier<NoticeShifts> before = () -> {
            NoticeShifts x = small();
            x.undo();
            return x;
        };
        Supplier<NoticeShifts> undone = () -> {
            NoticeShifts x = before.get();
            x.change(2, 300);
            x.undo();
            return x;
        };
        same("all with the pad, the slots and the history",
            Picture.withPadSlotsAndHistory(undone), Picture.withPadSlotsAndHistory(before));
        NoticeShifts x = new NoticeShifts();
        x.change(0, 20);
        x.change(0, 30);
        x.save(1);
        pad(x, "0/1");
        x.undo();
        due("the latest change", x.sentence(0, 1), 20);
        due("not the pad", x.count(7), 3);
        x.wipe();
        x.undo();
        due("not the pad", x.count(7), 0);
        due("not the slot", x.restore(1), 1);
        due("not the slot", x.sentence(0, 1), 30);
        NoticeShifts marks = new NoticeShifts();
        marks.putIn(0, 5);
        marks.undo();
        due("the marks that were given, too", marks.putIn(0, 5), 1);
    }

    private void sixStates() {
        of("30", "A history of at most 6 states is kept: each method that is a change, and returns no error, records the"
            + " state before it (also if nothing is different then)");
        NoticeShifts x = new NoticeShifts();
        for (int number = 1; number <= 8; number++) {
            x.change(0, 10);
            due("changes to the same length", x.count(8), Math.min(number, 6));
        }
        NoticeShifts y = new NoticeShifts();
        y.change(0, 301);
        y.cutOut(0);
        y.chapter(0, true);
        y.restore(0);
        y.read();
        due("errors", y.count(8), 0);
        y.put('.');
        y.fault();
        y.wipe();
        y.save(0);
        y.count(0);
        due("what is no change", y.count(8), 0);
        y.empty(0);
        due("an empty row emptied", y.count(8), 1);
        y.restore(0);
        due("a restored state that was just so", y.count(8), 2);
        pad(y, ".");
        y.read();
        due("an empty row read", y.count(8), 3);
        y.listener(0, 0);
        y.load(0, false);
        y.load(0, false);
        due("the same file loaded again", y.count(8), 6);
        due("undo is no change", y.undo(), 5);
        due("it takes one away", y.count(8), 5);
    }

    private void theOldestIsDropped() {
        of("30", "when one more is recorded, the oldest one is dropped");
        for (int changes = 6; changes <= 20; changes++) {
            NoticeShifts x = new NoticeShifts();
            for (int number = 1; number <= changes; number++) {
                x.change(0, 10 + number);
            }
            for (int left = 5; left >= 0; left--) {
                due("undone", x.undo(), left);
                due("the length of before", x.sentence(0, 1), changes + 4 + left);
            }
            due("no seventh", x.undo(), NOT_POSSIBLE);
            due("the length stays", x.sentence(0, 1), changes + 4);
        }
        NoticeShifts y = new NoticeShifts();
        for (int number = 1; number <= 7; number++) {
            y.change(0, 100 + number);
        }
        y.undo();
        y.undo();
        y.change(0, 200);
        y.change(0, 201);
        y.change(0, 202);
        int[] lengths = {201, 200, 105, 104, 103, 102};
        for (int number = 0; number < 6; number++) {
            due("undone", y.undo(), 5 - number);
            due("the length of before", y.sentence(0, 1), lengths[number]);
        }
        due("no seventh", y.undo(), NOT_POSSIBLE);
    }

    private void undoErrors() {
        of("30", "Returns how many changes can be undone then");
        NoticeShifts x = new NoticeShifts();
        x.change(0, 5);
        x.change(0, 6);
        due("one", x.undo(), 1);
        due("none", x.undo(), 0);

        of("30", "NOT_POSSIBLE if there is none");
        due("all are undone", x.undo(), NOT_POSSIBLE);
        due("a new object", new NoticeShifts().undo(), NOT_POSSIBLE);
        x.change(0, 0);
        due("behind an error", x.undo(), NOT_POSSIBLE);
        x.change(0, 7);
        due("behind a change again", x.undo(), 0);
        due("as at first", x.sentence(0, 1), 10);
    }

    // ---- promises 31 and 32

    private void save() {
        of("31", "Saves everything except the pad, the history and the slots in a slot, and overwrites what was saved"
            + " there");
        Supplier<NoticeShifts> made = () -> {
            NoticeShifts x = small();
            x.save(1);
            return x;
        };
        Supplier<NoticeShifts> restored = () -> {
            NoticeShifts x = made.get();
            x.cutOut(0);
            x.notice(120, 63);
            x.listener(5, 600);
            x.load(0, true);
            x.empty(0);
            x.chapter(1, false);
            x.restore(1);
            return x;
        };
        same("everything", Picture.of(restored), Picture.of(made));
        NoticeShifts x = restored.get();
        due("the marks that were given, too", x.putIn(0, 5), 3);
        due("not the history", x.count(8), 6);
        NoticeShifts y = pad(new NoticeShifts(), "0");
        y.save(0);
        y.put('1');
        y.restore(0);
        due("not the pad", y.count(7), 2);
        y.change(0, 20);
        y.save(0);
        y.change(0, 30);
        y.restore(0);
        due("overwritten", y.sentence(0, 1), 20);
        y.save(1);
        y.change(0, 40);
        y.save(0);
        y.restore(1);
        due("the other slot", y.sentence(0, 1), 20);
        y.restore(0);
        due("not the other slot", y.sentence(0, 1), 40);

        of("31", "- `slot`: 0 or 1");
        due("0", new NoticeShifts().save(0), 1);
        due("1", new NoticeShifts().save(1), 1);

        of("31", "Returns how many sentences there are");
        due("24", sentencesOf(24, 5).save(1), 24);
    }

    private void saveErrors() {
        of("31", "BAD_VALUE if there is no such slot");
        NoticeShifts x = new NoticeShifts();
        each("the slot", outside(0, 1), x::save, BAD_VALUE);
        due("nothing was saved in 0", x.restore(0), NOT_POSSIBLE);
        due("nothing was saved in 1", x.restore(1), NOT_POSSIBLE);
    }

    private void restore() {
        of("32", "Restores what was saved last in a slot, which keeps it");
        NoticeShifts x = new NoticeShifts();
        x.save(0);
        x.change(0, 20);
        x.save(0);
        x.change(0, 30);
        x.restore(0);
        due("what was saved last", x.sentence(0, 1), 20);
        x.change(0, 40);
        x.restore(0);
        due("the slot keeps it", x.sentence(0, 1), 20);
        x.undo();
        due("undone", x.sentence(0, 1), 40);
        x.restore(0);
        due("the slot still keeps it", x.sentence(0, 1), 20);
        for (int number = 0; number < 8; number++) {
            x.change(0, 50 + number);
        }
        x.restore(0);
        due("when the history has long dropped it", x.sentence(0, 1), 20);

        NoticeShifts other = new NoticeShifts();
        other.save(0);
        notices(other, 5).listener(0, 600);
        other.save(1);
        other.restore(0);
        other.notice(9, 2);
        other.listener(1, 300);
        due("a state with other things of the same numbers", other.restore(1), 1);
        due("the length of its notice", other.ofNotice(0, 0), 5);
        due("the groups of its notice", other.ofNotice(0, 1), 63);
        due("the group of its listener", other.of(0, 0), 0);
        due("the bound of its listener", other.of(0, 1), 600);

        of("32", "This is a change");
        isChange("restore(0)", Edges::small, y -> y.restore(0));
        isChange("restore of what there is", () -> saved(small()), y -> y.restore(0));

        of("32", "- `slot`: 0 or 1");
        due("0", saved(new NoticeShifts()).restore(0), 1);
        x.save(1);
        due("1", x.restore(1), 1);

        of("32", "Returns how many sentences there are then");
        NoticeShifts most = saved(sentencesOf(24, 5));
        most.cutOut(0);
        due("24", most.restore(0), 24);
        due("still 24", most.count(0), 24);
        NoticeShifts least = saved(new NoticeShifts());
        least.putIn(0, 5);
        due("one", least.restore(0), 1);
    }

    private static NoticeShifts saved(NoticeShifts x) {
        x.save(0);
        return x;
    }

    private void restoreErrors() {
        of("32", "BAD_VALUE if there is no such slot");
        NoticeShifts x = saved(new NoticeShifts());
        each("the slot", outside(0, 1), x::restore, BAD_VALUE);
        due("it is not recorded", x.count(8), 0);

        of("32", "NOT_POSSIBLE if nothing was saved in it");
        due("the slot 1", x.restore(1), NOT_POSSIBLE);
        due("the slot 0 of a new object", new NoticeShifts().restore(0), NOT_POSSIBLE);
        x.change(0, 5);
        x.undo();
        due("the slot 1, still", x.restore(1), NOT_POSSIBLE);
        due("the slot 0", x.restore(0), 1);
    }

    /** An object is used for at most 512 calls, and the last one is answered as the first. */
    private void manyCalls() {
        of("30", "at most 6 states");
        NoticeShifts x = new NoticeShifts();
        for (int call = 1; call <= 508; call++) {
            x.change(0, 1 + call % 300);
        }
        due("the call 509", x.count(8), 6);
        due("the call 510", x.undo(), 5);
        due("the call 511", x.sentence(0, 1), 1 + 507 % 300);
        due("the call 512", x.change(0, 300), 1 + 507 % 300);
    }
}
