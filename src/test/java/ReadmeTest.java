import java.io.IOException;
import java.nio.file.Files;
import java.nio.file.Path;
import java.util.ArrayDeque;
import java.util.Deque;

/** The calls that README.md shows answer what it says. */
public final class ReadmeTest {
    private static final Checks checks = new Checks();

    private final Deque<String> rows = new ArrayDeque<>();
    private final NoticeShifts x = new NoticeShifts();

    public static void main(String[] args) throws IOException {
        new ReadmeTest(Files.readString(Path.of("README.md"))).run();
        checks.finish();
    }

    private ReadmeTest(String readme) {
        String begin = "```java\nNoticeShifts x = new NoticeShifts();";
        int from = readme.indexOf(begin);
        checks.holds("there are calls", from >= 0);
        if (from >= 0) {
            String calls = readme.substring(from + begin.length(), readme.indexOf("\n```", from));
            calls.lines().skip(1).forEach(rows::addLast);
        }
    }

    private void run() {
        due("x.putIn(1, 20);", x.putIn(1, 20));
        due("x.chapter(1, true);", x.chapter(1, true));
        due("x.notice(15, 3);", x.notice(15, 3));
        due("x.book(1, 0);", x.book(1, 0));
        due("x.listener(0, 30);", x.listener(0, 30));
        due("x.listener(2, 30);", x.listener(2, 30));
        due("x.heard(0, 1);", x.heard(0, 1));
        due("x.heard(1, 1);", x.heard(1, 1));
        due("x.of(0, 4);", x.of(0, 4));
        due("x.whenHeard(0, 13);", x.whenHeard(0, 13));
        due("x.heardAt(0, 28, 0);", x.heardAt(0, 28, 0));
        due("x.chapterAt(0, 1);", x.chapterAt(0, 1));
        due("x.open(0, 1, 3);", x.open(0, 1, 3));
        due("x.wrongAt(0, 1, 28);", x.wrongAt(0, 1, 28));
        due("x.load(0, false);", x.load(0, false));
        due("x.change(0, 12);", x.change(0, 12));
        due("x.count(5);", x.count(5));
        due("x.ifBooked(0, 0);", x.ifBooked(0, 0));
        due("x.bestBreak(0, 0);", x.bestBreak(0, 0));
        due("x.enough(0);", x.enough(0));
        due("x.put(0x302F30);", x.put(0x302F30));
        due("x.fault();", x.fault());
        due("x.read();", x.read());
        due("x.save(0);", x.save(0));
        due("x.undo();", x.undo());
        due("x.restore(0);", x.restore(0));
        due("x.putIn(9, 20);", x.putIn(9, 20));
        checks.due("rows that are left", rows.size(), 0);
    }

    private void due(String call, int answer) {
        String row = rows.isEmpty() ? "" : rows.removeFirst();
        checks.holds(row + " is " + call + " // " + answer,
            row.startsWith(call + " ") && row.contains(" // " + answer + ": "));
    }
}
