/** All that an object answers about its state, in one text, but for the pad, slots and history. */
final class Picture {
    private Picture() {
    }

    static String of(NoticeShifts x) {
        StringBuilder text = new StringBuilder();
        for (int what = 0; what < 7; what++) {
            text.append(x.count(what)).append(what < 6 ? ' ' : '\n');
        }
        for (int s = 0; s < x.count(0); s++) {
            text.append("sentence");
            for (int what = 0; what < 6; what++) {
                text.append(' ').append(x.sentence(s, what));
            }
            for (int place = 0; place < x.sentence(s, 5); place++) {
                text.append(" n").append(x.booked(s, place));
            }
            text.append('\n');
        }
        for (int n = 0; n < x.count(3); n++) {
            text.append("notice");
            for (int what = 0; what < 4; what++) {
                text.append(' ').append(x.ofNotice(n, what));
            }
            text.append('\n');
        }
        for (int l = 0; l < x.count(4); l++) {
            text.append("listener");
            for (int what = 0; what < 8; what++) {
                text.append(' ').append(x.of(l, what));
            }
            for (int s = 0; s < x.of(l, 7); s++) {
                text.append(" n").append(x.heard(l, s));
            }
            for (int mark = 0; mark < 100; mark++) {
                text.append(' ').append(x.open(l, mark, 0));
            }
            for (int chapter = 0; x.chapterAt(l, chapter) >= 0; chapter++) {
                text.append(" c").append(x.chapterAt(l, chapter));
            }
            text.append('\n');
        }
        return text.toString();
    }
}
