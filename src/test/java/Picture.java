import java.util.function.Supplier;

/** All that an object answers about its state, in one text. Each part is asked of an object made anew. */
final class Picture {
    private Picture() {
    }

    /** Without the pad, the slots and the history. */
    static String of(Supplier<NoticeShifts> made) {
        StringBuilder text = new StringBuilder();
        episode(made.get(), text);
        notices(made.get(), text);
        int listeners = made.get().count(4);
        for (int listener = 0; listener < listeners; listener++) {
            listener(made.get(), listener, text);
        }
        return text.toString();
    }

    static String withPadSlotsAndHistory(Supplier<NoticeShifts> made) {
        StringBuilder text = new StringBuilder(of(made));
        NoticeShifts x = made.get();
        text.append("pad ").append(x.count(7)).append(' ').append(x.fault()).append(' ').append(x.read()).append('\n');
        text.append(of(() -> {
            NoticeShifts read = made.get();
            read.read();
            return read;
        }));
        for (int slot = 0; slot < 2; slot++) {
            int number = slot;
            text.append("slot ").append(made.get().restore(slot)).append('\n').append(of(() -> {
                NoticeShifts restored = made.get();
                restored.restore(number);
                return restored;
            }));
        }
        int changes = made.get().count(8);
        for (int back = 1; back <= changes; back++) {
            int times = back;
            text.append("undo ").append(back).append('\n').append(of(() -> undone(made.get(), times)));
        }
        return text.toString();
    }

    private static NoticeShifts undone(NoticeShifts x, int times) {
        for (int time = 0; time < times; time++) {
            x.undo();
        }
        return x;
    }

    private static void episode(NoticeShifts x, StringBuilder text) {
        for (int what = 0; what < 7; what++) {
            text.append(x.count(what)).append(what < 6 ? ' ' : '\n');
        }
        int sentences = x.count(0);
        for (int sentence = 0; sentence < sentences; sentence++) {
            text.append("sentence");
            for (int what = 0; what < 6; what++) {
                text.append(' ').append(x.sentence(sentence, what));
            }
            int booked = x.sentence(sentence, 5);
            for (int place = 0; place < booked; place++) {
                text.append(" n").append(x.booked(sentence, place));
            }
            text.append('\n');
        }
    }

    private static void notices(NoticeShifts x, StringBuilder text) {
        int notices = x.count(3);
        for (int notice = 0; notice < notices; notice++) {
            text.append("notice");
            for (int what = 0; what < 4; what++) {
                text.append(' ').append(x.ofNotice(notice, what));
            }
            text.append('\n');
        }
    }

    private static void listener(NoticeShifts x, int listener, StringBuilder text) {
        text.append("listener");
        for (int what = 0; what < 8; what++) {
            text.append(' ').append(x.of(listener, what));
        }
        int sentences = x.of(listener, 7);
        for (int sentence = 0; sentence < sentences; sentence++) {
            text.append(" n").append(x.heard(listener, sentence));
        }
        for (int mark = 0; mark < 100; mark++) {
            text.append(' ').append(x.open(listener, mark, 0));
        }
        int chapter = 0;
        for (int time = x.chapterAt(listener, chapter); time >= 0; time = x.chapterAt(listener, chapter)) {
            text.append(" c").append(time);
            chapter++;
        }
        text.append('\n');
    }
}
