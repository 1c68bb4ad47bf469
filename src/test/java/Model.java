import java.util.ArrayDeque;
import java.util.ArrayList;
import java.util.Deque;
import java.util.HashSet;
import java.util.List;
import java.util.Set;

/**
 * The document once more, written for plainness and not for thrift: what is heard is a list of all its
 * seconds, states never change but are copied, and a text is judged by what can still become a text.
 */
final class Model {
    static final int NO_SUCH = -1, BAD_VALUE = -2, BAD_TEXT = -3, TOO_MANY = -4, NOT_POSSIBLE = -5, NONE = -6;

    record Sentence(int mark, int length, boolean begins, List<Integer> row) {
    }

    record Notice(int length, int groups) {
    }

    record Listener(int group, int bound, Heard file) {
    }

    /** One break with the sentence behind it, as it is heard. */
    record Part(int notice, int noticeLength, int mark, int length, int chapter) {
    }

    record Second(int place, int notice, int mark, int inSentence, int byTheSentences) {
    }

    record Heard(List<Part> parts, List<Second> seconds) {
    }

    record World(List<Sentence> sentences, int given, List<Notice> notices, List<Listener> listeners) {
    }

    private World world = new World(List.of(new Sentence(0, 10, true, List.of())), 1, List.of(), List.of());
    private final Deque<World> history = new ArrayDeque<>();
    private final World[] slots = new World[2];
    private String pad = "";

    // ---- helpers

    private static boolean in(int value, List<?> list) {
        return value >= 0 && value < list.size();
    }

    private static <T> List<T> with(List<T> list, int place, T thing) {
        List<T> copy = new ArrayList<>(list);
        copy.set(place, thing);
        return List.copyOf(copy);
    }

    private static <T> List<T> and(List<T> list, T thing) {
        List<T> copy = new ArrayList<>(list);
        copy.add(thing);
        return List.copyOf(copy);
    }

    private void become(World next) {
        history.addLast(world);
        if (history.size() > 6) {
            history.removeFirst();
        }
        world = next;
    }

    private static World sentences(World w, List<Sentence> sentences, int given) {
        List<Sentence> copy = new ArrayList<>(sentences);
        Sentence first = copy.get(0);
        copy.set(0, new Sentence(first.mark, first.length, true, first.row));
        return new World(List.copyOf(copy), given, w.notices, w.listeners);
    }

    private static World withRow(World w, int sentence, List<Integer> row) {
        Sentence s = w.sentences.get(sentence);
        return sentences(w, with(w.sentences, sentence, new Sentence(s.mark, s.length, s.begins, row)), w.given);
    }

    private static int chapterOf(World w, int sentence) {
        return (int) w.sentences.subList(0, sentence + 1).stream().filter(Sentence::begins).count() - 1;
    }

    private static int timeOf(World w, int sentence) {
        return w.sentences.subList(0, sentence).stream().mapToInt(Sentence::length).sum();
    }

    private static Heard hear(World w, int group, int bound) {
        List<Integer> heardBefore = new ArrayList<>();
        List<Part> parts = new ArrayList<>();
        for (int s = 0; s < w.sentences.size(); s++) {
            int lengths = heardBefore.stream().mapToInt(n -> w.notices.get(n).length).sum();
            int notice = w.sentences.get(s).row.stream()
                .filter(n -> (w.notices.get(n).groups & 1 << group) != 0)
                .filter(n -> !heardBefore.contains(n))
                .filter(n -> lengths + w.notices.get(n).length <= bound)
                .findFirst().orElse(NONE);
            if (notice != NONE) {
                heardBefore.add(notice);
            }
            Sentence sentence = w.sentences.get(s);
            parts.add(new Part(notice, notice == NONE ? 0 : w.notices.get(notice).length, sentence.mark,
                sentence.length, chapterOf(w, s)));
        }
        return new Heard(parts, seconds(parts));
    }

    private static List<Second> seconds(List<Part> parts) {
        List<Second> seconds = new ArrayList<>();
        int time = 0;
        for (int place = 0; place < parts.size(); place++) {
            Part part = parts.get(place);
            for (int second = 0; second < part.noticeLength; second++) {
                seconds.add(new Second(place, part.notice, part.mark, 0, NONE));
            }
            for (int second = 0; second < part.length; second++) {
                seconds.add(new Second(place, NONE, part.mark, second, time++));
            }
        }
        return seconds;
    }

    private static Heard fresh(World w, int listener) {
        return hear(w, w.listeners.get(listener).group, w.listeners.get(listener).bound);
    }

    private Heard heard(int listener) {
        Heard file = world.listeners.get(listener).file;
        return file != null ? file : fresh(world, listener);
    }

    private boolean old(int listener) {
        Heard file = world.listeners.get(listener).file;
        return file != null && !file.parts.equals(fresh(world, listener).parts);
    }

    // ---- the episode

    int putIn(int place, int length) {
        if (place < 0 || place > world.sentences.size()) return NO_SUCH;
        if (length < 1 || length > 300) return BAD_VALUE;
        if (world.sentences.size() == 24 || world.given == 100) return TOO_MANY;
        List<Sentence> copy = new ArrayList<>(world.sentences);
        copy.add(place, new Sentence(world.given, length, false, List.of()));
        become(sentences(world, copy, world.given + 1));
        return world.given - 1;
    }

    int cutOut(int sentence) {
        if (!in(sentence, world.sentences)) return NO_SUCH;
        if (world.sentences.size() == 1) return NOT_POSSIBLE;
        List<Sentence> copy = new ArrayList<>(world.sentences);
        int mark = copy.remove(sentence).mark;
        become(sentences(world, copy, world.given));
        return mark;
    }

    int change(int sentence, int length) {
        if (!in(sentence, world.sentences)) return NO_SUCH;
        if (length < 1 || length > 300) return BAD_VALUE;
        Sentence s = world.sentences.get(sentence);
        become(sentences(world, with(world.sentences, sentence, new Sentence(s.mark, length, s.begins, s.row)), world.given));
        return s.length;
    }

    int chapter(int sentence, boolean begins) {
        if (!in(sentence, world.sentences)) return NO_SUCH;
        Sentence s = world.sentences.get(sentence);
        if (s.begins == begins || sentence == 0) return NOT_POSSIBLE;
        become(sentences(world, with(world.sentences, sentence, new Sentence(s.mark, s.length, begins, s.row)), world.given));
        return count(2);
    }

    // ---- notices, breaks, listeners

    int notice(int length, int groups) {
        if (length < 1 || length > 120 || groups < 1 || groups > 63) return BAD_VALUE;
        if (world.notices.size() == 8) return TOO_MANY;
        become(new World(world.sentences, world.given, and(world.notices, new Notice(length, groups)), world.listeners));
        return world.notices.size() - 1;
    }

    int book(int sentence, int notice) {
        if (!in(sentence, world.sentences) || !in(notice, world.notices)) return NO_SUCH;
        List<Integer> row = world.sentences.get(sentence).row;
        if (row.size() == 4) return TOO_MANY;
        become(withRow(world, sentence, and(row, notice)));
        return row.size() + 1;
    }

    int empty(int sentence) {
        if (!in(sentence, world.sentences)) return NO_SUCH;
        int had = world.sentences.get(sentence).row.size();
        become(withRow(world, sentence, List.of()));
        return had;
    }

    int read() {
        if (fault() != NONE) return BAD_TEXT;
        String[] rows = pad.split("/");
        if (rows.length > world.sentences.size()) return NO_SUCH;
        World next = world;
        for (int s = 0; s < rows.length; s++) {
            List<Integer> row = new ArrayList<>();
            for (char sign : rows[s].replace(".", "").toCharArray()) {
                if (!in(sign - '0', world.notices)) return NO_SUCH;
                row.add(sign - '0');
            }
            next = withRow(next, s, List.copyOf(row));
        }
        become(next);
        pad = "";
        return rows.length;
    }

    int listener(int group, int bound) {
        if (group < 0 || group > 5 || bound < 0 || bound > 600) return BAD_VALUE;
        if (world.listeners.size() == 6) return TOO_MANY;
        become(new World(world.sentences, world.given, world.notices, and(world.listeners, new Listener(group, bound, null))));
        return world.listeners.size() - 1;
    }

    int load(int listener, boolean throwsAway) {
        if (!in(listener, world.listeners)) return NO_SUCH;
        Listener l = world.listeners.get(listener);
        if (throwsAway && l.file == null) return NOT_POSSIBLE;
        Heard file = throwsAway ? null : fresh(world, listener);
        become(new World(world.sentences, world.given, world.notices,
            with(world.listeners, listener, new Listener(l.group, l.bound, file))));
        return heard(listener).seconds.size();
    }

    // ---- what there is

    int sentence(int sentence, int what) {
        if (!in(sentence, world.sentences)) return NO_SUCH;
        Sentence s = world.sentences.get(sentence);
        return switch (what) {
            case 0 -> s.mark;
            case 1 -> s.length;
            case 2 -> timeOf(world, sentence);
            case 3 -> chapterOf(world, sentence);
            case 4 -> s.begins ? 1 : 0;
            case 5 -> s.row.size();
            default -> BAD_VALUE;
        };
    }

    int marked(int mark) {
        return world.sentences.stream().map(Sentence::mark).toList().indexOf(mark);
    }

    int booked(int sentence, int place) {
        if (!in(sentence, world.sentences) || !in(place, world.sentences.get(sentence).row)) return NO_SUCH;
        return world.sentences.get(sentence).row.get(place);
    }

    private static int hearers(World w, int notice) {
        int hearers = 0;
        for (int l = 0; l < w.listeners.size(); l++) {
            if (fresh(w, l).parts.stream().anyMatch(part -> part.notice == notice)) hearers++;
        }
        return hearers;
    }

    int ofNotice(int notice, int what) {
        if (!in(notice, world.notices)) return NO_SUCH;
        return switch (what) {
            case 0 -> world.notices.get(notice).length;
            case 1 -> world.notices.get(notice).groups;
            case 2 -> (int) world.sentences.stream().filter(s -> s.row.contains(notice)).count();
            case 3 -> hearers(world, notice);
            default -> BAD_VALUE;
        };
    }

    int of(int listener, int what) {
        if (!in(listener, world.listeners)) return NO_SUCH;
        Listener l = world.listeners.get(listener);
        return switch (what) {
            case 0 -> l.group;
            case 1 -> l.bound;
            case 2 -> l.file == null ? 0 : 1;
            case 3 -> old(listener) ? 1 : 0;
            case 4 -> heard(listener).seconds.size();
            case 5 -> (int) heard(listener).parts.stream().filter(part -> part.notice != NONE).count();
            case 6 -> (int) heard(listener).seconds.stream().filter(second -> second.notice != NONE).count();
            case 7 -> heard(listener).parts.size();
            default -> BAD_VALUE;
        };
    }

    int count(int what) {
        switch (what) {
            case 0: return world.sentences.size();
            case 1: return timeOf(world, world.sentences.size());
            case 2: return chapterOf(world, world.sentences.size() - 1) + 1;
            case 3: return world.notices.size();
            case 4: return world.listeners.size();
            case 7: return pad.length();
            case 8: return history.size();
            default: break;
        }
        if (what != 5 && what != 6) return BAD_VALUE;
        int set = 0;
        int longest = NONE;
        for (int l = world.listeners.size() - 1; l >= 0; l--) {
            if (old(l)) set += (int) Math.pow(2, l);
            if (longest == NONE || heard(l).seconds.size() >= heard(longest).seconds.size()) longest = l;
        }
        return what == 5 ? set : longest;
    }

    // ---- what is heard

    int heard(int listener, int sentence) {
        if (!in(listener, world.listeners) || !in(sentence, heard(listener).parts)) return NO_SUCH;
        return heard(listener).parts.get(sentence).notice;
    }

    int whenHeard(int listener, int time) {
        if (!in(listener, world.listeners)) return NO_SUCH;
        if (time < 0 || time > 7199) return BAD_VALUE;
        int at = heard(listener).seconds.stream().map(Second::byTheSentences).toList().indexOf(time);
        return at < 0 ? NONE : at;
    }

    int heardAt(int listener, int time, int what) {
        if (!in(listener, world.listeners)) return NO_SUCH;
        if (time < 0 || time > 9999 || what < 0 || what > 3) return BAD_VALUE;
        Heard heard = heard(listener);
        if (time >= heard.seconds.size()) return NOT_POSSIBLE;
        Second second = heard.seconds.get(time);
        return switch (what) {
            case 0 -> second.byTheSentences;
            case 1 -> second.notice;
            case 2 -> second.place;
            default -> heard.parts.get(second.place).chapter;
        };
    }

    int chapterAt(int listener, int chapter) {
        if (!in(listener, world.listeners)) return NO_SUCH;
        Heard heard = heard(listener);
        for (int time = 0; time < heard.seconds.size(); time++) {
            if (heard.parts.get(heard.seconds.get(time).place).chapter == chapter) return time;
        }
        return NO_SUCH;
    }

    int open(int listener, int mark, int seconds) {
        if (!in(listener, world.listeners)) return NO_SUCH;
        if (seconds < 0 || seconds > 299) return BAD_VALUE;
        List<Second> heard = heard(listener).seconds;
        for (int time = 0; time < heard.size(); time++) {
            Second second = heard.get(time);
            if (second.notice == NONE && second.mark == mark && second.inSentence == seconds) return time;
        }
        return NOT_POSSIBLE;
    }

    private Integer moment(int listener, int time) {
        List<Second> heard = heard(listener).seconds;
        if (time >= heard.size() || marked(heard.get(time).mark) < 0) return null;
        return timeOf(world, marked(heard.get(time).mark)) + heard.get(time).inSentence;
    }

    int wrongAt(int listener, int other, int time) {
        if (!in(listener, world.listeners) || !in(other, world.listeners)) return NO_SUCH;
        if (time < 0 || time > 9999) return BAD_VALUE;
        Integer one = moment(listener, time);
        Integer two = moment(other, time);
        return one == null || two == null ? NOT_POSSIBLE : Math.max(one - two, two - one);
    }

    // ---- what if

    private static int together(World w) {
        int seconds = 0;
        for (int l = 0; l < w.listeners.size(); l++) seconds += fresh(w, l).seconds.size();
        return seconds;
    }

    int ifBooked(int sentence, int notice) {
        if (!in(sentence, world.sentences) || !in(notice, world.notices)) return NO_SUCH;
        List<Integer> row = world.sentences.get(sentence).row;
        if (row.size() == 4) return TOO_MANY;
        return together(withRow(world, sentence, and(row, notice))) - together(world) + 10000;
    }

    int bestBreak(int notice, int what) {
        if (!in(notice, world.notices)) return NO_SUCH;
        if (what != 0 && what != 1) return BAD_VALUE;
        int best = NONE;
        int most = NONE;
        for (int s = world.sentences.size() - 1; s >= 0; s--) {
            List<Integer> row = world.sentences.get(s).row;
            if (row.size() == 4) continue;
            int hearers = hearers(withRow(world, s, and(row, notice)), notice);
            if (best == NONE || hearers >= most) {
                best = s;
                most = hearers;
            }
        }
        return what == 0 ? best : most;
    }

    private int notices(int group, int bound) {
        return (int) hear(world, group, bound).parts.stream().filter(part -> part.notice != NONE).count();
    }

    int enough(int listener) {
        if (!in(listener, world.listeners)) return NO_SUCH;
        int group = world.listeners.get(listener).group;
        int wanted = notices(group, 600);
        int bound = 0;
        while (notices(group, bound) != wanted) bound++;
        return bound;
    }

    // ---- texts

    int put(long characters) {
        StringBuilder text = new StringBuilder();
        boolean over = false;
        for (int place = 0; place < 8; place++) {
            int code = (int) (characters >> 8 * place) & 0xFF;
            if (code == 0) {
                over = true;
            } else if (over || code < 33 || code > 126) {
                return BAD_VALUE;
            } else {
                text.insert(0, (char) code);
            }
        }
        if (text.isEmpty()) return BAD_VALUE;
        if (pad.length() + text.length() > 60) return TOO_MANY;
        pad += text;
        return pad.length();
    }

    int wipe() {
        int length = pad.length();
        pad = "";
        return length;
    }

    int fault() {
        for (int length = 1; length <= pad.length(); length++) {
            if (!pad.substring(0, length).matches("((\\.|[0-7]{1,4})/){0,23}(\\.|[0-7]{0,4})")) return length - 1;
        }
        return pad.matches("((\\.|[0-7]{1,4})/){0,23}(\\.|[0-7]{1,4})") ? NONE : pad.length();
    }

    // ---- undo, saving

    int undo() {
        if (history.isEmpty()) return NOT_POSSIBLE;
        world = history.removeLast();
        return history.size();
    }

    int save(int slot) {
        if (slot < 0 || slot > 1) return BAD_VALUE;
        slots[slot] = world;
        return world.sentences.size();
    }

    int restore(int slot) {
        if (slot < 0 || slot > 1) return BAD_VALUE;
        if (slots[slot] == null) return NOT_POSSIBLE;
        become(slots[slot]);
        return world.sentences.size();
    }
}
