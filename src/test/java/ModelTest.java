import java.util.ArrayList;
import java.util.List;
import java.util.Map;
import java.util.Random;
import java.util.Set;
import java.util.TreeMap;
import java.util.TreeSet;
import java.util.function.Function;

/** Long runs of mixed calls, always the same ones, against the model; all promises. */
public final class ModelTest {
    private static final int RUNS = 400;
    private static final int CALLS = 512;

    private static final Checks checks = new Checks();
    private static final Map<String, Set<Integer>> reached = new TreeMap<>();

    private record Call(String name, Function<NoticeShifts, Integer> real, Function<Model, Integer> model) {
    }

    private final Random random;
    private final NoticeShifts x = new NoticeShifts();
    private final Model model = new Model();
    private final int longest;
    private final boolean cutsOften;

    private ModelTest(int run) {
        random = new Random(run);
        longest = run % 4 == 0 ? 300 : 20;
        cutsOften = run % 3 == 0;
    }

    public static void main(String[] args) {
        int runs = args.length > 1 ? Integer.parseInt(args[1]) : RUNS;
        for (int run = 0; run < runs; run++) {
            new ModelTest(run).run(run);
        }
        allErrorsWereReached();
        checks.finish();
    }

    private void run(int run) {
        List<String> calls = new ArrayList<>();
        for (int number = 0; number < CALLS; number++) {
            Call call = next(number);
            calls.add(call.name);
            int got = call.real.apply(x);
            int due = call.model.apply(model);
            String method = call.name.substring(0, call.name.indexOf('('));
            reached.computeIfAbsent(method, name -> new TreeSet<>()).add(Math.min(due, 0));
            checks.due("run " + run + ", call " + number + ": " + call.name, got, due);
            if (got != due) {
                System.out.println("  after " + calls.subList(Math.max(0, calls.size() - 20), calls.size()));
                return;
            }
        }
    }

    private int anything() {
        int kind = random.nextInt(6);
        return kind == 0 ? Integer.MIN_VALUE : kind == 1 ? Integer.MAX_VALUE : random.nextInt();
    }

    /** Mostly what is there, sometimes what is just beyond it, seldom anything. */
    private int about(int size) {
        int kind = random.nextInt(40);
        if (kind == 0) {
            return anything();
        }
        return kind < 4 ? random.nextInt(size + 3) - 1 : random.nextInt(Math.max(1, size));
    }

    private int within(int least, int most) {
        int kind = random.nextInt(40);
        if (kind == 0) {
            return random.nextBoolean() ? least - 1 : most + 1;
        }
        return kind == 1 ? anything() : kind == 2 ? most : least + random.nextInt(most - least + 1);
    }

    private int sentence() {
        return about(model.count(0));
    }

    private int listener() {
        return about(model.count(4));
    }

    private int notice() {
        return about(model.count(3));
    }

    private int length() {
        return random.nextInt(10) == 0 ? within(1, 300) : within(1, longest);
    }

    private int time() {
        return random.nextInt(3) == 0 ? within(0, 9999) : about(model.count(1) + 60);
    }

    private long characters() {
        if (random.nextInt(12) == 0) {
            return random.nextBoolean() ? random.nextLong() : random.nextLong() >>> 8 * random.nextInt(8);
        }
        if (random.nextInt(12) == 0) {
            return Checks.packed("./././.") >>> (random.nextBoolean() ? 0 : 8);
        }
        String signs = random.nextInt(20) == 0 ? "0./8" : "0123456/././".substring(random.nextInt(4));
        StringBuilder text = new StringBuilder();
        for (int length = 1 + random.nextInt(8); length > 0; length--) {
            text.append(signs.charAt(random.nextInt(signs.length())));
        }
        return Checks.packed(text.toString());
    }

    /** A pad that is likely to be read, so that rows are taken often. */
    private long row() {
        StringBuilder text = new StringBuilder();
        int rows = 1 + random.nextInt(4);
        for (int row = 0; row < rows && text.length() < 5; row++) {
            text.append(row == 0 ? "" : "/");
            int length = random.nextInt(3);
            text.append(length == 0 ? "." : "");
            for (int place = 0; place < length; place++) {
                text.append((char) ('0' + random.nextInt(Math.max(1, model.count(3)))));
            }
        }
        return Checks.packed(text.toString());
    }

    private Call next(int number) {
        int kind = random.nextInt(number < 80 && random.nextInt(8) != 0 ? 16 : 46);
        return kind < 16 ? change(kind) : kind < 36 ? look(kind - 16) : rest(kind - 36);
    }

    private Call change(int kind) {
        int a = sentence();
        int b = length();
        boolean flag = random.nextBoolean();
        switch (kind) {
            case 0: case 1: return putIn();
            case 2: return cutsOften || random.nextInt(3) == 0
                ? new Call("cutOut(" + a + ")", x -> x.cutOut(a), m -> m.cutOut(a)) : putIn();
            case 3: return new Call("change(" + a + ", " + b + ")", x -> x.change(a, b), m -> m.change(a, b));
            case 4: return new Call("chapter(" + a + ", " + flag + ")", x -> x.chapter(a, flag), m -> m.chapter(a, flag));
            case 5: return notice(within(1, 120), within(1, 63));
            case 6: case 7: case 8: return book(a, notice());
            case 9: return random.nextInt(4) != 0 ? book(a, notice())
                : new Call("empty(" + a + ")", x -> x.empty(a), m -> m.empty(a));
            case 10: return new Call("read()", x -> x.read(), m -> m.read());
            case 11: return listener(within(0, 5), within(0, 600));
            case 12: case 13: return load(listener(), random.nextInt(4) == 0);
            case 14: return put(row());
            default: return random.nextInt(3) == 0 ? put(characters()) : wipe();
        }
    }

    private Call putIn() {
        int place = about(model.count(0) + 1);
        int length = length();
        return new Call("putIn(" + place + ", " + length + ")", x -> x.putIn(place, length), m -> m.putIn(place, length));
    }

    private Call notice(int length, int groups) {
        return new Call("notice(" + length + ", " + groups + ")", x -> x.notice(length, groups), m -> m.notice(length, groups));
    }

    private Call book(int a, int b) {
        return new Call("book(" + a + ", " + b + ")", x -> x.book(a, b), m -> m.book(a, b));
    }

    private Call listener(int a, int b) {
        return new Call("listener(" + a + ", " + b + ")", x -> x.listener(a, b), m -> m.listener(a, b));
    }

    private Call load(int a, boolean b) {
        return new Call("load(" + a + ", " + b + ")", x -> x.load(a, b), m -> m.load(a, b));
    }

    private Call put(long a) {
        return new Call("put(" + a + ")", x -> x.put(a), m -> m.put(a));
    }

    private Call wipe() {
        return new Call("wipe()", x -> x.wipe(), m -> m.wipe());
    }

    private Call look(int kind) {
        int s = sentence();
        int n = notice();
        int l = listener();
        int o = listener();
        int t = time();
        int small = within(0, 9);
        int mark = about(24);
        switch (kind) {
            case 0: return new Call("sentence(" + s + ", " + small + ")", x -> x.sentence(s, small), m -> m.sentence(s, small));
            case 1: return new Call("marked(" + mark + ")", x -> x.marked(mark), m -> m.marked(mark));
            case 2: return new Call("booked(" + s + ", " + small + ")", x -> x.booked(s, small), m -> m.booked(s, small));
            case 3: return new Call("ofNotice(" + n + ", " + small + ")", x -> x.ofNotice(n, small), m -> m.ofNotice(n, small));
            case 4: case 5: case 6:
                return new Call("of(" + l + ", " + small + ")", x -> x.of(l, small), m -> m.of(l, small));
            case 7: case 8: return new Call("count(" + small + ")", x -> x.count(small), m -> m.count(small));
            case 9: case 10: return new Call("heard(" + l + ", " + s + ")", x -> x.heard(l, s), m -> m.heard(l, s));
            case 11: return new Call("whenHeard(" + l + ", " + t + ")", x -> x.whenHeard(l, t), m -> m.whenHeard(l, t));
            case 12: case 13:
                int what = within(0, 3);
                return new Call("heardAt(" + l + ", " + t + ", " + what + ")", x -> x.heardAt(l, t, what), m -> m.heardAt(l, t, what));
            case 14: return new Call("chapterAt(" + l + ", " + small + ")", x -> x.chapterAt(l, small), m -> m.chapterAt(l, small));
            case 15: case 16:
                int seconds = random.nextInt(10) == 0 ? within(0, 299) : within(0, longest);
                return new Call("open(" + l + ", " + mark + ", " + seconds + ")", x -> x.open(l, mark, seconds), m -> m.open(l, mark, seconds));
            default: return new Call("wrongAt(" + l + ", " + o + ", " + t + ")", x -> x.wrongAt(l, o, t), m -> m.wrongAt(l, o, t));
        }
    }

    private Call rest(int kind) {
        int s = sentence();
        int n = notice();
        int l = listener();
        int what = within(0, 1);
        switch (kind) {
            case 0: case 1: return new Call("ifBooked(" + s + ", " + n + ")", x -> x.ifBooked(s, n), m -> m.ifBooked(s, n));
            case 2: case 3: return new Call("bestBreak(" + n + ", " + what + ")", x -> x.bestBreak(n, what), m -> m.bestBreak(n, what));
            case 4: return new Call("enough(" + l + ")", x -> x.enough(l), m -> m.enough(l));
            case 5: return put(random.nextBoolean() ? characters() : row());
            case 6: return new Call("fault()", x -> x.fault(), m -> m.fault());
            case 7: return new Call("undo()", x -> x.undo(), m -> m.undo());
            case 8: return new Call("save(" + what + ")", x -> x.save(what), m -> m.save(what));
            default: return random.nextBoolean() ? new Call("undo()", x -> x.undo(), m -> m.undo())
                : new Call("restore(" + what + ")", x -> x.restore(what), m -> m.restore(what));
        }
    }

    /** Else the runs would say little; 0 stands for an answer that is no error. */
    private static void allErrorsWereReached() {
        Map<String, Set<Integer>> due = new TreeMap<>();
        due.put("putIn", Set.of(0, -1, -2, -4));
        due.put("cutOut", Set.of(0, -1, -5));
        due.put("change", Set.of(0, -1, -2));
        due.put("chapter", Set.of(0, -1, -5));
        due.put("notice", Set.of(0, -2, -4));
        due.put("book", Set.of(0, -1, -4));
        due.put("empty", Set.of(0, -1));
        due.put("read", Set.of(0, -1, -3));
        due.put("listener", Set.of(0, -2, -4));
        due.put("load", Set.of(0, -1, -5));
        due.put("sentence", Set.of(0, -1, -2));
        due.put("marked", Set.of(0, -1));
        due.put("booked", Set.of(0, -1));
        due.put("ofNotice", Set.of(0, -1, -2));
        due.put("of", Set.of(0, -1, -2));
        due.put("count", Set.of(0, -2, -6));
        due.put("heard", Set.of(0, -1, -6));
        due.put("whenHeard", Set.of(0, -1, -2, -6));
        due.put("heardAt", Set.of(0, -1, -2, -5, -6));
        due.put("chapterAt", Set.of(0, -1));
        due.put("open", Set.of(0, -1, -2, -5));
        due.put("wrongAt", Set.of(0, -1, -2, -5));
        due.put("ifBooked", Set.of(0, -1, -4));
        due.put("bestBreak", Set.of(0, -1, -2, -6));
        due.put("enough", Set.of(0, -1));
        due.put("put", Set.of(0, -2, -4));
        due.put("wipe", Set.of(0));
        due.put("fault", Set.of(0, -6));
        due.put("undo", Set.of(0, -5));
        due.put("save", Set.of(0, -2));
        due.put("restore", Set.of(0, -2, -5));
        for (Map.Entry<String, Set<Integer>> entry : due.entrySet()) {
            Set<Integer> got = reached.getOrDefault(entry.getKey(), Set.of());
            checks.holds(entry.getKey() + " reached " + got + " of " + entry.getValue(), got.equals(entry.getValue()));
        }
        checks.due("methods", reached.size(), due.size());
    }
}
