/**
 * A podcast into which notices are put whose lengths differ by listener. What each method answers
 * is promised in ../shared/DOC.md. All rows are made with the object and used again: no call makes
 * an object.
 */
public final class NoticeShifts {
    public static final int NO_SUCH = -1, BAD_VALUE = -2, BAD_TEXT = -3, TOO_MANY = -4, NOT_POSSIBLE = -5, NONE = -6;

    private static final int MOST_SENTENCES = 24;
    private static final int FIRST_LENGTH = 10;
    private static final int MOST_LENGTH = 300;
    private static final int MOST_MARKS = 100;
    private static final int MOST_EPISODE_TIME = 7199;
    private static final int MOST_HEARD_TIME = 9999;
    private static final int MOST_NOTICES = 8;
    private static final int MOST_NOTICE_LENGTH = 120;
    private static final int MOST_IN_ROW = 4;
    private static final int MOST_GROUP = 5;
    private static final int ALL_GROUPS = 63;
    private static final int MOST_LISTENERS = 6;
    private static final int MOST_BOUND = 600;
    private static final int NO_LONGER = 10000;
    private static final int MOST_CHARACTERS = 60;
    private static final int MOST_AT_ONCE = 8;
    private static final int MOST_STATES = 6;
    private static final int SLOTS = 2;

    private final State now = new State();
    private final History history = new History();
    private final State[] slots = new State[SLOTS];
    private final boolean[] isSaved = new boolean[SLOTS];
    private final Pad pad = new Pad();
    private final Chooser chooser = new Chooser();
    private final Hearing hearingNow = new Hearing();

    public NoticeShifts() {
        now.insertSentence(0, FIRST_LENGTH);
        for (int slot = 0; slot < SLOTS; slot++) {
            slots[slot] = new State();
        }
    }

    // ---- the episode

    public int putIn(int place, int length) {
        if (!isWithin(place, 0, now.sentences.size)) {
            return NO_SUCH;
        }
        if (!isWithin(length, 1, MOST_LENGTH)) {
            return BAD_VALUE;
        }
        if (now.sentences.size >= MOST_SENTENCES || now.nextMark >= MOST_MARKS) {
            return TOO_MANY;
        }
        history.keep(now);
        now.insertSentence(place, length);
        return now.sentences.marks[place];
    }

    public int cutOut(int sentence) {
        if (!now.hasSentence(sentence)) {
            return NO_SUCH;
        }
        if (now.sentences.size == 1) {
            return NOT_POSSIBLE;
        }
        history.keep(now);
        int mark = now.sentences.marks[sentence];
        now.removeSentence(sentence);
        return mark;
    }

    public int change(int sentence, int length) {
        if (!now.hasSentence(sentence)) {
            return NO_SUCH;
        }
        if (!isWithin(length, 1, MOST_LENGTH)) {
            return BAD_VALUE;
        }
        history.keep(now);
        int previous = now.sentences.lengths[sentence];
        now.sentences.lengths[sentence] = length;
        return previous;
    }

    public int chapter(int sentence, boolean begins) {
        if (!now.hasSentence(sentence)) {
            return NO_SUCH;
        }
        int wanted = asNumber(begins);
        if (sentence == 0 || now.sentences.begins[sentence] == wanted) {
            return NOT_POSSIBLE;
        }
        history.keep(now);
        now.sentences.begins[sentence] = wanted;
        return now.sentences.chapters();
    }

    // ---- notices, breaks, listeners

    public int notice(int length, int groups) {
        if (!isWithin(length, 1, MOST_NOTICE_LENGTH) || !isWithin(groups, 1, ALL_GROUPS)) {
            return BAD_VALUE;
        }
        if (now.notices >= MOST_NOTICES) {
            return TOO_MANY;
        }
        history.keep(now);
        int number = now.notices;
        now.noticeLengths[number] = length;
        now.noticeGroups[number] = groups;
        now.notices++;
        return number;
    }

    public int book(int sentence, int notice) {
        if (!now.hasSentence(sentence) || !now.hasNotice(notice)) {
            return NO_SUCH;
        }
        if (now.isRowFull(sentence)) {
            return TOO_MANY;
        }
        history.keep(now);
        now.appendToRow(sentence, notice);
        return now.rowSizes[sentence];
    }

    public int empty(int sentence) {
        if (!now.hasSentence(sentence)) {
            return NO_SUCH;
        }
        history.keep(now);
        int previous = now.rowSizes[sentence];
        now.rowSizes[sentence] = 0;
        return previous;
    }

    public int read() {
        if (pad.findFault() != NONE) {
            return BAD_TEXT;
        }
        int rows = pad.countRows();
        if (rows > now.sentences.size || pad.highestNotice() >= now.notices) {
            return NO_SUCH;
        }
        history.keep(now);
        takeRows();
        pad.length = 0;
        return rows;
    }

    public int listener(int group, int bound) {
        if (!isWithin(group, 0, MOST_GROUP) || !isWithin(bound, 0, MOST_BOUND)) {
            return BAD_VALUE;
        }
        if (now.listeners >= MOST_LISTENERS) {
            return TOO_MANY;
        }
        history.keep(now);
        int number = now.listeners;
        now.groups[number] = group;
        now.bounds[number] = bound;
        now.hasFile[number] = false;
        now.listeners++;
        return number;
    }

    public int load(int listener, boolean throwsAway) {
        if (!now.hasListener(listener)) {
            return NO_SUCH;
        }
        if (throwsAway && !now.hasFile[listener]) {
            return NOT_POSSIBLE;
        }
        history.keep(now);
        now.hasFile[listener] = !throwsAway;
        if (!throwsAway) {
            hearNow(listener, now.files[listener]);
        }
        return hearingOf(listener).total();
    }

    // ---- what there is; nothing changes

    public int sentence(int sentence, int what) {
        if (!now.hasSentence(sentence)) {
            return NO_SUCH;
        }
        switch (what) {
            case 0: return now.sentences.marks[sentence];
            case 1: return now.sentences.lengths[sentence];
            case 2: return now.sentences.timeOf(sentence);
            case 3: return now.sentences.chapterOf(sentence);
            case 4: return now.sentences.begins[sentence];
            case 5: return now.rowSizes[sentence];
            default: return BAD_VALUE;
        }
    }

    public int marked(int mark) {
        return now.sentences.placeOf(mark);
    }

    public int booked(int sentence, int place) {
        if (!now.hasSentence(sentence) || !isWithin(place, 0, now.rowSizes[sentence] - 1)) {
            return NO_SUCH;
        }
        return now.inRow(sentence, place);
    }

    public int ofNotice(int notice, int what) {
        if (!now.hasNotice(notice)) {
            return NO_SUCH;
        }
        switch (what) {
            case 0: return now.noticeLengths[notice];
            case 1: return now.noticeGroups[notice];
            case 2: return now.countBreaksWith(notice);
            case 3: return countHearers(notice);
            default: return BAD_VALUE;
        }
    }

    public int of(int listener, int what) {
        if (!now.hasListener(listener)) {
            return NO_SUCH;
        }
        switch (what) {
            case 0: return now.groups[listener];
            case 1: return now.bounds[listener];
            case 2: return asNumber(now.hasFile[listener]);
            case 3: return asNumber(isOutOfDate(listener));
            case 4: return hearingOf(listener).total();
            case 5: return hearingOf(listener).countNotices();
            case 6: return hearingOf(listener).noticeSeconds();
            case 7: return hearingOf(listener).sentences.size;
            default: return BAD_VALUE;
        }
    }

    public int count(int what) {
        switch (what) {
            case 0: return now.sentences.size;
            case 1: return now.sentences.total();
            case 2: return now.sentences.chapters();
            case 3: return now.notices;
            case 4: return now.listeners;
            case 5: return outOfDateListeners();
            case 6: return longestListener();
            case 7: return pad.length;
            case 8: return history.size;
            default: return BAD_VALUE;
        }
    }

    // ---- what is heard; nothing changes

    public int heard(int listener, int sentence) {
        if (!now.hasListener(listener)) {
            return NO_SUCH;
        }
        Hearing hearing = hearingOf(listener);
        if (!isWithin(sentence, 0, hearing.sentences.size - 1)) {
            return NO_SUCH;
        }
        return hearing.notices[sentence];
    }

    public int whenHeard(int listener, int time) {
        if (!now.hasListener(listener)) {
            return NO_SUCH;
        }
        if (!isWithin(time, 0, MOST_EPISODE_TIME)) {
            return BAD_VALUE;
        }
        Hearing hearing = hearingOf(listener);
        int place = hearing.sentences.placeAtTime(time);
        if (place == NONE) {
            return NONE;
        }
        return hearing.sentenceTime(place) + time - hearing.sentences.timeOf(place);
    }

    public int heardAt(int listener, int time, int what) {
        if (!now.hasListener(listener)) {
            return NO_SUCH;
        }
        if (!isWithin(time, 0, MOST_HEARD_TIME) || !isWithin(what, 0, 3)) {
            return BAD_VALUE;
        }
        Hearing hearing = hearingOf(listener);
        int place = hearing.placeHeardAt(time);
        if (place == NONE) {
            return NOT_POSSIBLE;
        }
        int seconds = time - hearing.sentenceTime(place);
        boolean isInNotice = seconds < 0;
        switch (what) {
            case 0: return isInNotice ? NONE : hearing.sentences.timeOf(place) + seconds;
            case 1: return isInNotice ? hearing.notices[place] : NONE;
            case 2: return place;
            default: return hearing.sentences.chapterOf(place);
        }
    }

    public int chapterAt(int listener, int chapter) {
        if (!now.hasListener(listener)) {
            return NO_SUCH;
        }
        Hearing hearing = hearingOf(listener);
        if (!isWithin(chapter, 0, hearing.sentences.chapters() - 1)) {
            return NO_SUCH;
        }
        return hearing.breakTime(hearing.sentences.firstOfChapter(chapter));
    }

    public int open(int listener, int mark, int seconds) {
        if (!now.hasListener(listener)) {
            return NO_SUCH;
        }
        if (!isWithin(seconds, 0, MOST_LENGTH - 1)) {
            return BAD_VALUE;
        }
        Hearing hearing = hearingOf(listener);
        int place = hearing.sentences.placeOf(mark);
        if (place == NO_SUCH || seconds >= hearing.sentences.lengths[place]) {
            return NOT_POSSIBLE;
        }
        return hearing.sentenceTime(place) + seconds;
    }

    public int wrongAt(int listener, int other, int time) {
        if (!now.hasListener(listener) || !now.hasListener(other)) {
            return NO_SUCH;
        }
        if (!isWithin(time, 0, MOST_HEARD_TIME)) {
            return BAD_VALUE;
        }
        int meant = momentNow(listener, time);
        int opened = momentNow(other, time);
        if (meant == NOT_POSSIBLE || opened == NOT_POSSIBLE) {
            return NOT_POSSIBLE;
        }
        return Math.abs(opened - meant);
    }

    // ---- what if; nothing changes

    public int ifBooked(int sentence, int notice) {
        if (!now.hasSentence(sentence) || !now.hasNotice(notice)) {
            return NO_SUCH;
        }
        if (now.isRowFull(sentence)) {
            return TOO_MANY;
        }
        int without = secondsOfAll();
        now.appendToRow(sentence, notice);
        int with = secondsOfAll();
        now.dropFromRow(sentence);
        return NO_LONGER + with - without;
    }

    public int bestBreak(int notice, int what) {
        if (!now.hasNotice(notice)) {
            return NO_SUCH;
        }
        if (!isWithin(what, 0, 1)) {
            return BAD_VALUE;
        }
        int best = NONE;
        int most = NONE;
        for (int sentence = 0; sentence < now.sentences.size; sentence++) {
            int hearers = hearersIfBooked(sentence, notice);
            if (hearers > most) {
                best = sentence;
                most = hearers;
            }
        }
        return what == 0 ? best : most;
    }

    public int enough(int listener) {
        if (!now.hasListener(listener)) {
            return NO_SUCH;
        }
        chooseAll(listener, MOST_BOUND);
        int wanted = chooser.chosen;
        int nextToTry = 0;
        for (int bound = 0; bound < MOST_BOUND; bound++) {
            if (bound < nextToTry) {
                continue;
            }
            chooseAll(listener, bound);
            if (chooser.chosen == wanted) {
                return bound;
            }
            nextToTry = chooser.nextBound;
        }
        return MOST_BOUND;
    }

    // ---- texts

    public int put(long characters) {
        int added = Pad.countCharacters(characters);
        if (added == BAD_VALUE) {
            return BAD_VALUE;
        }
        if (pad.length + added > MOST_CHARACTERS) {
            return TOO_MANY;
        }
        pad.append(characters, added);
        return pad.length;
    }

    public int wipe() {
        int previous = pad.length;
        pad.length = 0;
        return previous;
    }

    public int fault() {
        return pad.findFault();
    }

    // ---- undo, saving

    public int undo() {
        if (history.size == 0) {
            return NOT_POSSIBLE;
        }
        history.takeBack(now);
        return history.size;
    }

    public int save(int slot) {
        if (!isWithin(slot, 0, SLOTS - 1)) {
            return BAD_VALUE;
        }
        slots[slot].copyFrom(now);
        isSaved[slot] = true;
        return now.sentences.size;
    }

    public int restore(int slot) {
        if (!isWithin(slot, 0, SLOTS - 1)) {
            return BAD_VALUE;
        }
        if (!isSaved[slot]) {
            return NOT_POSSIBLE;
        }
        history.keep(now);
        now.copyFrom(slots[slot]);
        return now.sentences.size;
    }

    // ---- what the methods share

    private static boolean isWithin(int value, int least, int most) {
        return value >= least && value <= most;
    }

    private static int asNumber(boolean holds) {
        return holds ? 1 : 0;
    }

    private void takeRows() {
        int sentence = 0;
        now.rowSizes[sentence] = 0;
        for (int index = 0; index < pad.length; index++) {
            char character = pad.characters[index];
            if (character == '/') {
                sentence++;
                now.rowSizes[sentence] = 0;
            } else if (Pad.isNotice(character)) {
                now.appendToRow(sentence, character - '0');
            }
        }
    }

    /** The hearing is good until the next call of this method or of isOutOfDate. */
    private Hearing hearingOf(int listener) {
        if (now.hasFile[listener]) {
            return now.files[listener];
        }
        hearNow(listener, hearingNow);
        return hearingNow;
    }

    private void hearNow(int listener, Hearing hearing) {
        hearing.sentences.copyFrom(now.sentences);
        chooser.begin(now.groups[listener], now.bounds[listener]);
        for (int sentence = 0; sentence < now.sentences.size; sentence++) {
            int notice = chooser.choose(now, sentence);
            hearing.notices[sentence] = notice;
            hearing.noticeLengths[sentence] = notice == NONE ? 0 : now.noticeLengths[notice];
        }
    }

    private boolean isOutOfDate(int listener) {
        if (!now.hasFile[listener]) {
            return false;
        }
        hearNow(listener, hearingNow);
        return !hearingNow.isLike(now.files[listener]);
    }

    private int outOfDateListeners() {
        int set = 0;
        for (int listener = 0; listener < now.listeners; listener++) {
            if (isOutOfDate(listener)) {
                set |= 1 << listener;
            }
        }
        return set;
    }

    private int longestListener() {
        int longest = NONE;
        int most = NONE;
        for (int listener = 0; listener < now.listeners; listener++) {
            int total = hearingOf(listener).total();
            if (total > most) {
                longest = listener;
                most = total;
            }
        }
        return longest;
    }

    /** By the time of the episode of now; NOT_POSSIBLE if there is no such moment. */
    private int momentNow(int listener, int time) {
        Hearing hearing = hearingOf(listener);
        int heardPlace = hearing.placeHeardAt(time);
        if (heardPlace == NONE) {
            return NOT_POSSIBLE;
        }
        int place = now.sentences.placeOf(hearing.sentences.marks[heardPlace]);
        if (place == NO_SUCH) {
            return NOT_POSSIBLE;
        }
        return now.sentences.timeOf(place) + Math.max(0, time - hearing.sentenceTime(heardPlace));
    }

    private void chooseAll(int listener, int bound) {
        chooser.begin(now.groups[listener], bound);
        for (int sentence = 0; sentence < now.sentences.size; sentence++) {
            chooser.choose(now, sentence);
        }
    }

    private int secondsOfAll() {
        int seconds = 0;
        for (int listener = 0; listener < now.listeners; listener++) {
            chooseAll(listener, now.bounds[listener]);
            seconds += chooser.seconds;
        }
        return seconds;
    }

    private int countHearers(int notice) {
        int hearers = 0;
        for (int listener = 0; listener < now.listeners; listener++) {
            chooseAll(listener, now.bounds[listener]);
            hearers += (chooser.chosenSet >> notice) & 1;
        }
        return hearers;
    }

    private int hearersIfBooked(int sentence, int notice) {
        if (now.isRowFull(sentence)) {
            return NONE;
        }
        now.appendToRow(sentence, notice);
        int hearers = countHearers(notice);
        now.dropFromRow(sentence);
        return hearers;
    }

    /** Sentences in their order: those of the episode, or those that a listener hears. */
    private static final class Sentences {
        final int[] marks = new int[MOST_SENTENCES];
        final int[] lengths = new int[MOST_SENTENCES];
        // 1 or 0, since System.arraycopy is allowed for numbers alone
        final int[] begins = new int[MOST_SENTENCES];
        int size;

        int timeOf(int place) {
            int time = 0;
            for (int ahead = 0; ahead < place; ahead++) {
                time += lengths[ahead];
            }
            return time;
        }

        int total() {
            return timeOf(size);
        }

        int placeAtTime(int time) {
            int end = 0;
            for (int place = 0; place < size; place++) {
                end += lengths[place];
                if (time < end) {
                    return place;
                }
            }
            return NONE;
        }

        int placeOf(int mark) {
            for (int place = 0; place < size; place++) {
                if (marks[place] == mark) {
                    return place;
                }
            }
            return NO_SUCH;
        }

        int chapterOf(int place) {
            int chapter = 0;
            for (int behind = 1; behind <= place; behind++) {
                chapter += begins[behind];
            }
            return chapter;
        }

        int chapters() {
            return chapterOf(size - 1) + 1;
        }

        int firstOfChapter(int chapter) {
            int begun = 0;
            for (int place = 0; place < size; place++) {
                begun += begins[place];
                if (begun > chapter) {
                    return place;
                }
            }
            return 0;
        }

        void copyFrom(Sentences other) {
            size = other.size;
            System.arraycopy(other.marks, 0, marks, 0, size);
            System.arraycopy(other.lengths, 0, lengths, 0, size);
            System.arraycopy(other.begins, 0, begins, 0, size);
        }

        boolean isLike(Sentences other) {
            if (size != other.size) {
                return false;
            }
            for (int place = 0; place < size; place++) {
                if (marks[place] != other.marks[place] || lengths[place] != other.lengths[place]
                        || begins[place] != other.begins[place]) {
                    return false;
                }
            }
            return true;
        }
    }

    /** What a listener hears: ahead of each sentence a notice, or NONE with the length 0. */
    private static final class Hearing {
        final Sentences sentences = new Sentences();
        final int[] notices = new int[MOST_SENTENCES];
        final int[] noticeLengths = new int[MOST_SENTENCES];

        int breakTime(int place) {
            int time = sentences.timeOf(place);
            for (int ahead = 0; ahead < place; ahead++) {
                time += noticeLengths[ahead];
            }
            return time;
        }

        int sentenceTime(int place) {
            return breakTime(place) + noticeLengths[place];
        }

        int total() {
            return breakTime(sentences.size);
        }

        int noticeSeconds() {
            return total() - sentences.total();
        }

        int countNotices() {
            int found = 0;
            for (int place = 0; place < sentences.size; place++) {
                found += asNumber(notices[place] != NONE);
            }
            return found;
        }

        /** A notice belongs to the place of the sentence behind it. */
        int placeHeardAt(int time) {
            int end = 0;
            for (int place = 0; place < sentences.size; place++) {
                end += noticeLengths[place] + sentences.lengths[place];
                if (time < end) {
                    return place;
                }
            }
            return NONE;
        }

        void copyFrom(Hearing other) {
            sentences.copyFrom(other.sentences);
            System.arraycopy(other.notices, 0, notices, 0, sentences.size);
            System.arraycopy(other.noticeLengths, 0, noticeLengths, 0, sentences.size);
        }

        boolean isLike(Hearing other) {
            if (!sentences.isLike(other.sentences)) {
                return false;
            }
            for (int place = 0; place < sentences.size; place++) {
                if (notices[place] != other.notices[place]
                        || noticeLengths[place] != other.noticeLengths[place]) {
                    return false;
                }
            }
            return true;
        }
    }

    /** Goes through the breaks in their order and chooses what one listener hears in each. */
    private static final class Chooser {
        int group;
        int bound;
        int chosen;
        int chosenSet;
        int seconds;
        // the bounds between this one and bound let the same be heard, so enough can skip them
        int nextBound;

        void begin(int ofGroup, int withBound) {
            group = ofGroup;
            bound = withBound;
            chosen = 0;
            chosenSet = 0;
            seconds = 0;
            nextBound = MOST_BOUND;
        }

        int choose(State state, int sentence) {
            for (int place = 0; place < state.rowSizes[sentence]; place++) {
                int notice = state.inRow(sentence, place);
                if (!isFor(state, notice)) {
                    continue;
                }
                int together = seconds + state.noticeLengths[notice];
                if (together <= bound) {
                    chosen++;
                    chosenSet |= 1 << notice;
                    seconds = together;
                    return notice;
                }
                nextBound = Math.min(nextBound, together);
            }
            return NONE;
        }

        boolean isFor(State state, int notice) {
            boolean isForGroup = ((state.noticeGroups[notice] >> group) & 1) == 1;
            boolean wasHeard = ((chosenSet >> notice) & 1) == 1;
            return isForGroup && !wasHeard;
        }
    }

    /** All that undo and restore bring back. */
    private static final class State {
        final Sentences sentences = new Sentences();
        final int[] rowSizes = new int[MOST_SENTENCES];
        // MOST_IN_ROW places for each sentence
        final int[] rows = new int[MOST_SENTENCES * MOST_IN_ROW];
        final int[] noticeLengths = new int[MOST_NOTICES];
        final int[] noticeGroups = new int[MOST_NOTICES];
        final int[] groups = new int[MOST_LISTENERS];
        final int[] bounds = new int[MOST_LISTENERS];
        final boolean[] hasFile = new boolean[MOST_LISTENERS];
        final Hearing[] files = new Hearing[MOST_LISTENERS];
        int nextMark;
        int notices;
        int listeners;

        State() {
            for (int listener = 0; listener < MOST_LISTENERS; listener++) {
                files[listener] = new Hearing();
            }
        }

        boolean hasSentence(int sentence) {
            return isWithin(sentence, 0, sentences.size - 1);
        }

        boolean hasNotice(int notice) {
            return isWithin(notice, 0, notices - 1);
        }

        boolean hasListener(int listener) {
            return isWithin(listener, 0, listeners - 1);
        }

        boolean isRowFull(int sentence) {
            return rowSizes[sentence] >= MOST_IN_ROW;
        }

        int inRow(int sentence, int place) {
            return rows[sentence * MOST_IN_ROW + place];
        }

        void appendToRow(int sentence, int notice) {
            rows[sentence * MOST_IN_ROW + rowSizes[sentence]] = notice;
            rowSizes[sentence]++;
        }

        void dropFromRow(int sentence) {
            rowSizes[sentence]--;
        }

        boolean isInRow(int sentence, int notice) {
            for (int place = 0; place < rowSizes[sentence]; place++) {
                if (inRow(sentence, place) == notice) {
                    return true;
                }
            }
            return false;
        }

        int countBreaksWith(int notice) {
            int found = 0;
            for (int sentence = 0; sentence < sentences.size; sentence++) {
                found += asNumber(isInRow(sentence, notice));
            }
            return found;
        }

        void insertSentence(int place, int length) {
            for (int behind = sentences.size; behind > place; behind--) {
                moveSentence(behind - 1, behind);
            }
            sentences.size++;
            sentences.marks[place] = nextMark;
            sentences.lengths[place] = length;
            sentences.begins[place] = asNumber(place == 0);
            rowSizes[place] = 0;
            nextMark++;
        }

        void removeSentence(int sentence) {
            sentences.size--;
            for (int place = sentence; place < sentences.size; place++) {
                moveSentence(place + 1, place);
            }
            sentences.begins[0] = 1;
        }

        void moveSentence(int from, int to) {
            sentences.marks[to] = sentences.marks[from];
            sentences.lengths[to] = sentences.lengths[from];
            sentences.begins[to] = sentences.begins[from];
            rowSizes[to] = rowSizes[from];
            System.arraycopy(rows, from * MOST_IN_ROW, rows, to * MOST_IN_ROW, MOST_IN_ROW);
        }

        void copyFrom(State other) {
            sentences.copyFrom(other.sentences);
            nextMark = other.nextMark;
            System.arraycopy(other.rowSizes, 0, rowSizes, 0, MOST_SENTENCES);
            System.arraycopy(other.rows, 0, rows, 0, MOST_SENTENCES * MOST_IN_ROW);
            notices = other.notices;
            System.arraycopy(other.noticeLengths, 0, noticeLengths, 0, MOST_NOTICES);
            System.arraycopy(other.noticeGroups, 0, noticeGroups, 0, MOST_NOTICES);
            listeners = other.listeners;
            System.arraycopy(other.groups, 0, groups, 0, MOST_LISTENERS);
            System.arraycopy(other.bounds, 0, bounds, 0, MOST_LISTENERS);
            for (int listener = 0; listener < listeners; listener++) {
                hasFile[listener] = other.hasFile[listener];
                if (hasFile[listener]) {
                    files[listener].copyFrom(other.files[listener]);
                }
            }
        }
    }

    /** The latest states in a ring, so that the oldest one is overwritten when it is dropped. */
    private static final class History {
        final State[] states = new State[MOST_STATES];
        int next;
        int size;

        History() {
            for (int place = 0; place < MOST_STATES; place++) {
                states[place] = new State();
            }
        }

        void keep(State state) {
            states[next].copyFrom(state);
            next = next == MOST_STATES - 1 ? 0 : next + 1;
            size = Math.min(size + 1, MOST_STATES);
        }

        void takeBack(State state) {
            next = next == 0 ? MOST_STATES - 1 : next - 1;
            size--;
            state.copyFrom(states[next]);
        }
    }

    /** The text of the rows of breaks. */
    private static final class Pad {
        final char[] characters = new char[MOST_CHARACTERS];
        int length;

        static boolean isNotice(char character) {
            return character >= '0' && character <= '7';
        }

        static int countCharacters(long packed) {
            int found = 0;
            for (int place = 0; place < MOST_AT_ONCE && packed >>> (8 * place) != 0; place++) {
                if (!isWithin(characterAt(packed, place), 33, 126)) {
                    return BAD_VALUE;
                }
                found++;
            }
            return found == 0 ? BAD_VALUE : found;
        }

        /** The place is counted from the last character. */
        static char characterAt(long packed, int place) {
            return (char) ((packed >>> (8 * place)) & 255);
        }

        void append(long packed, int added) {
            for (int place = added - 1; place >= 0; place--) {
                characters[length] = characterAt(packed, place);
                length++;
            }
        }

        int findFault() {
            int row = 0;
            int room = MOST_IN_ROW;
            boolean isBegun = false;
            for (int index = 0; index < length; index++) {
                char character = characters[index];
                if (character == '/') {
                    row++;
                    if (!isBegun || row == MOST_SENTENCES) {
                        return index;
                    }
                    room = MOST_IN_ROW;
                    isBegun = false;
                } else if (character == '.' && !isBegun) {
                    room = 0;
                    isBegun = true;
                } else if (isNotice(character) && room > 0) {
                    room--;
                    isBegun = true;
                } else {
                    return index;
                }
            }
            return isBegun ? NONE : length;
        }

        int countRows() {
            int rows = 1;
            for (int index = 0; index < length; index++) {
                rows += asNumber(characters[index] == '/');
            }
            return rows;
        }

        int highestNotice() {
            int highest = -1;
            for (int index = 0; index < length; index++) {
                if (isNotice(characters[index])) {
                    highest = Math.max(highest, characters[index] - '0');
                }
            }
            return highest;
        }
    }
}
