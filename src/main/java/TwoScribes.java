/**
 * Two scribes copy a page whose right half mirrors its left half: one writes from the left, one
 * from the right, and both dip their pens in one well.
 */
public final class TwoScribes {
    public static final int UNKNOWN = -1;
    public static final int BAD_VALUE = -2;
    public static final int FULL = -3;
    public static final int NOT_POSSIBLE = -4;
    public static final int NONE = -5;

    private static final int HALF_ROOM = 20;
    private static final int PAGE_ROOM = 40;
    private static final int TEXT_ROOM = 60;
    private static final int HISTORY_ROOM = 4;
    private static final int GREATEST_PLACE = 39;
    private static final int GREATEST_LETTER = 26;
    private static final int GREATEST_PACE = 9;
    private static final int MOST_POURED_AT_ONCE = 80;
    private static final int MOST_POURED = 9999;
    private static final int MOST_TICKS_AT_ONCE = 99;
    private static final int LAST_TICK = 99999;
    private static final int HORIZON = 2000;
    private static final int FAULT_BASE = -100;
    private static final int NO_FAULT = -1;

    private static final int DIP_TICKS = 0;
    private static final int BLOT_EIGHTHS = 1;
    private static final int CORRECTIONS = 2;
    private static final int[] LEAST_SETTINGS = {1, 0, 0};
    private static final int[] GREATEST_SETTINGS = {9, 8, 20};

    // What a scribe does in a tick, by the numbers that next() tells.
    private static final int WRITES = 0;
    private static final int DIPS = 1;
    private static final int BEGINS_TO_DIP = 2;
    private static final int WAITS_FOR_OTHER = 3;
    private static final int WAITS_FOR_INK = 4;
    private static final int RESTS = 5;

    private final State now = new State();
    private final State trial = new State();
    private final State snapshot = new State();
    private final History history = new History();
    private final PageText text = new PageText();
    private boolean hasSnapshot;

    /** Creates two scribes without a page. */
    public TwoScribes() {
    }

    // ---- the page

    /**
     * Takes the page of the text, which stays, in place of the one that was. This is an act.
     *
     * @return how many places it has; -100 minus the fault of the text; UNKNOWN if it has a
     *     misreading for a place that it has not
     */
    public int readPage() {
        int fault = text.findFault();
        if (fault != NO_FAULT) {
            return FAULT_BASE - fault;
        }
        if (text.farthest >= 2 * text.half) {
            return UNKNOWN;
        }
        history.record(now);
        now.beginPage(text);
        return now.page.places;
    }

    /**
     * Tells a misreading, or that there is none any more. This is an act.
     *
     * @param place a place of the page
     * @param letter 1 to 26; 0 if there is none
     * @return the letter that would have been written there; UNKNOWN; BAD_VALUE; NOT_POSSIBLE if
     *     it is written, or a tick was spent on it; NONE if it is told so already
     */
    public int misread(int place, int letter) {
        if (!now.page.has(place)) {
            return UNKNOWN;
        }
        if (letter < 0 || letter > GREATEST_LETTER) {
            return BAD_VALUE;
        }
        if (now.isBegun(place)) {
            return NOT_POSSIBLE;
        }
        if (at(now.page.told, place) == letter) {
            return NONE;
        }
        history.record(now);
        int previous = now.page.letterFor(place);
        put(now.page.told, place, letter);
        return previous;
    }

    /**
     * Corrects a place. This is an act.
     *
     * @param place a place of the page
     * @return how many corrections are left on this page; UNKNOWN; NOT_POSSIBLE if it is not
     *     written, or no correction is left, or the well has too little ink; NONE if the letter is
     *     the one that is due, and no blot
     */
    public int correct(int place) {
        if (!now.page.has(place)) {
            return UNKNOWN;
        }
        if (!now.canCorrect(place)) {
            return NOT_POSSIBLE;
        }
        if (now.page.isFaultless(place)) {
            return NONE;
        }
        history.record(now);
        now.makeCorrection(place);
        return now.correctionsLeft();
    }

    // ---- scribes, the well

    /**
     * Sets the pace of a scribe; a letter that is begun takes the new one, but at least one tick
     * more. This is an act.
     *
     * @param scribe 0 or 1
     * @param ticks 1 to 9
     * @return the previous one; UNKNOWN; BAD_VALUE; NONE if it is so already
     */
    public int setPace(int scribe, int ticks) {
        if (!isScribe(scribe)) {
            return UNKNOWN;
        }
        if (ticks < 1 || ticks > GREATEST_PACE) {
            return BAD_VALUE;
        }
        int previous = now.scribeOf(scribe).pace;
        if (previous == ticks) {
            return NONE;
        }
        history.record(now);
        now.scribeOf(scribe).pace = ticks;
        return previous;
    }

    /**
     * Pours ink into the well. This is an act.
     *
     * @param eighths 1 to 80: how many eighths
     * @return how many were poured so far; BAD_VALUE; FULL if more than 9999 would have been
     */
    public int pour(int eighths) {
        if (eighths < 1 || eighths > MOST_POURED_AT_ONCE) {
            return BAD_VALUE;
        }
        if (now.poured + eighths > MOST_POURED) {
            return FULL;
        }
        history.record(now);
        now.poured += eighths;
        now.well += (float) eighths / 8;
        return now.poured;
    }

    /**
     * Sets a setting. This is an act.
     *
     * @param which 0 to 2
     * @param value in its range
     * @return the previous one; UNKNOWN; BAD_VALUE; NONE if it is so already
     */
    public int set(int which, int value) {
        if (which < DIP_TICKS || which > CORRECTIONS) {
            return UNKNOWN;
        }
        if (value < at(LEAST_SETTINGS, which) || value > at(GREATEST_SETTINGS, which)) {
            return BAD_VALUE;
        }
        int previous = at(now.settings, which);
        if (previous == value) {
            return NONE;
        }
        history.record(now);
        put(now.settings, which, value);
        return previous;
    }

    /**
     * Lets ticks pass. This is an act.
     *
     * @param ticks 1 to 99
     * @return how many letters are written in them; BAD_VALUE; FULL if the tick would be beyond
     *     99999
     */
    public int pass(int ticks) {
        if (ticks < 1 || ticks > MOST_TICKS_AT_ONCE) {
            return BAD_VALUE;
        }
        if (now.tick + ticks > LAST_TICK) {
            return FULL;
        }
        history.record(now);
        int before = now.letters;
        for (int i = 0; i < ticks; i++) {
            now.passTick();
        }
        return now.letters - before;
    }

    // ---- texts

    /**
     * Types a character behind the text.
     *
     * @param character any character
     * @return the length of the text then; FULL if it has 60 characters
     */
    public int type(char character) {
        return text.append(character) ? text.length : FULL;
    }

    /**
     * Empties the text.
     *
     * @return the length that it had
     */
    public int clearText() {
        int previous = text.length;
        text.length = 0;
        return previous;
    }

    // ---- history

    /**
     * Removes and restores the latest state of the history.
     *
     * @return the number of states that are left; NONE if the history is empty
     */
    public int undo() {
        return history.takeBack(now) ? history.size : NONE;
    }

    /**
     * Takes a snapshot of the state, in place of the one that was.
     *
     * @return the tick
     */
    public int keep() {
        snapshot.copyFrom(now);
        hasSnapshot = true;
        return now.tick;
    }

    /**
     * Restores the state of the snapshot, which stays. This is an act.
     *
     * @return the tick then; NONE if there is no snapshot
     */
    public int restore() {
        if (!hasSnapshot) {
            return NONE;
        }
        history.record(now);
        now.copyFrom(snapshot);
        return now.tick;
    }

    // ---- what is told

    /**
     * Tells of a place of the page.
     *
     * @param place a place of the page
     * @param what 0 for the letter that is due, 1 for the one that is written, 2 for whether it is
     *     a blot, 3 for whether it was corrected, 4 for the misreading that is told, 5 for the
     *     place that mirrors it, 6 for the tick in which it was written (NONE if it is not)
     * @return the number; UNKNOWN; BAD_VALUE
     */
    public int place(int place, int what) {
        Page page = now.page;
        if (!page.has(place)) {
            return UNKNOWN;
        }
        switch (what) {
            case 0:
                return at(page.due, place);
            case 1:
                return at(page.written, place);
            case 2:
                return at(page.blots, place);
            case 3:
                return at(page.corrected, place);
            case 4:
                return at(page.told, place);
            case 5:
                return page.mirrorOf(place);
            case 6:
                return page.isWritten(place) ? at(page.writtenIn, place) : NONE;
            default:
                return BAD_VALUE;
        }
    }

    /**
     * Tells of a scribe.
     *
     * @param scribe 0 or 1
     * @param what 0 for the pace, 1 for letters written on this page, 2 for the place of the next
     *     letter (NONE if there is none), 3 for ticks spent on it, 4 for ticks of dipping that are
     *     left, 5 for dips so far that are over, 6 for ticks of waiting so far
     * @return the number; UNKNOWN; BAD_VALUE
     */
    public int scribe(int scribe, int what) {
        if (!isScribe(scribe)) {
            return UNKNOWN;
        }
        Scribe self = now.scribeOf(scribe);
        switch (what) {
            case 0:
                return self.pace;
            case 1:
                return self.letters;
            case 2:
                return now.nextPlaceOf(scribe);
            case 3:
                return self.spent;
            case 4:
                return self.dipLeft;
            case 5:
                return self.dips;
            case 6:
                return self.waits;
            default:
                return BAD_VALUE;
        }
    }

    /**
     * Tells of ink.
     *
     * @param what 0 and 1 for the ink of the pens of the scribes 0 and 1, 2 for that of the well,
     *     3 for the ink that letters needed so far, 4 for that of corrections so far
     * @return the ink; -1.0 for another what
     */
    public double ink(int what) {
        switch (what) {
            case 0:
                return (double) now.left.pen;
            case 1:
                return (double) now.right.pen;
            case 2:
                return (double) now.well;
            case 3:
                return (double) now.letterInk;
            case 4:
                return (double) now.correctionInk;
            default:
                return -1.0;
        }
    }

    /**
     * Tells what a scribe does in the next tick.
     *
     * @param scribe 0 or 1
     * @return 0 a tick of a letter is spent, 1 a tick of dipping, 2 begins to dip, 3 waits as the
     *     other one dips, 4 waits as the well is empty, 5 rests; UNKNOWN (for the scribe 1, as
     *     things are behind the scribe 0 of that tick)
     */
    public int next(int scribe) {
        if (!isScribe(scribe)) {
            return UNKNOWN;
        }
        if (scribe == 0) {
            return now.deedOf(0);
        }
        trial.copyFrom(now);
        trial.takeTurn(0);
        return trial.deedOf(1);
    }

    /**
     * Tells behind how many ticks the page is all written, if nothing else is done.
     *
     * @return how many, 0 if it is (or there is no page); NONE if that is not within 2000
     */
    public int doneIn() {
        trial.copyFrom(now);
        return trial.runUntilDone();
    }

    /**
     * Tells how many pairs of places that mirror one another are written with unlike letters, told
     * pair by pair.
     *
     * @return how many
     */
    public int unlikePairs() {
        Page page = now.page;
        int unlike = 0;
        for (int p = 0; p < page.places / 2; p++) {
            if (page.areUnlike(p, page.mirrorOf(p))) {
                unlike++;
            }
        }
        return unlike;
    }

    /**
     * Tells the same in another way: by comparing the page, as it is written, with itself read
     * from the other end, place by place.
     *
     * @return how many pairs
     */
    public int unlikeReadings() {
        Page page = now.page;
        int unlike = 0;
        int fromOtherEnd = page.places;
        for (int p = 0; p < page.places; p++) {
            fromOtherEnd--;
            if (page.areUnlike(p, fromOtherEnd)) {
                unlike++;
            }
        }
        // Both readings meet every pair twice, once at each of its places.
        return unlike / 2;
    }

    /**
     * Tells the ink that all letters need that are not written yet, added one after the other by
     * places (misreadings as they are told).
     *
     * @return the ink
     */
    public double needed() {
        Page page = now.page;
        float sum = 0.0f;
        for (int p = 0; p < page.places; p++) {
            if (!page.isWritten(p)) {
                sum += inkFor(page.letterFor(p));
            }
        }
        return (double) sum;
    }

    /**
     * Finds the pace with which, if a scribe had it from now on, the page would be done first, of
     * several the greatest.
     *
     * @param scribe 0 or 1
     * @return the pace; UNKNOWN; NONE if the page is done, or would not be within 2000 ticks with
     *     any
     */
    public int bestPace(int scribe) {
        if (!isScribe(scribe)) {
            return UNKNOWN;
        }
        if (now.isDone()) {
            return NONE;
        }
        int best = NONE;
        int fewest = HORIZON;
        for (int pace = 1; pace <= GREATEST_PACE; pace++) {
            trial.copyFrom(now);
            trial.scribeOf(scribe).pace = pace;
            int ticks = trial.runUntilDone();
            if (ticks != NONE && ticks <= fewest) {
                best = pace;
                fewest = ticks;
            }
        }
        return best;
    }

    /**
     * Counts.
     *
     * @param what 0 for the tick, 1 for places of the page, 2 for written ones, 3 for blots on it,
     *     4 for written letters on it that are not due, 5 for corrections that are left on it, 6
     *     for pages so far, 7 for letters written so far, 8 for eighths poured so far, 9 to 11 for
     *     the settings, 12 for the states in the history, 13 for the length of the text
     * @return the number; BAD_VALUE
     */
    public int count(int what) {
        switch (what) {
            case 0:
                return now.tick;
            case 1:
                return now.page.places;
            case 2:
                return now.lettersOnPage();
            case 3:
                return now.page.countBlots();
            case 4:
                return now.page.countNotDue();
            case 5:
                return now.correctionsLeft();
            case 6:
                return now.pages;
            case 7:
                return now.letters;
            case 8:
                return now.poured;
            case 9:
                return at(now.settings, DIP_TICKS);
            case 10:
                return at(now.settings, BLOT_EIGHTHS);
            case 11:
                return at(now.settings, CORRECTIONS);
            case 12:
                return history.size;
            case 13:
                return text.length;
            default:
                return BAD_VALUE;
        }
    }

    // ---- helpers

    private static boolean isScribe(int number) {
        return number == 0 || number == 1;
    }

    private static float inkFor(int letter) {
        return (float) letter / 64;
    }

    private static int at(int[] row, int index) {
        return index >= 0 && index < row.length ? row[index] : 0;
    }

    private static void put(int[] row, int index, int value) {
        if (index >= 0 && index < row.length) {
            row[index] = value;
        }
    }

    private static void clearRow(int[] row) {
        for (int i = 0; i < row.length; i++) {
            row[i] = 0;
        }
    }

    private static void copyRow(int[] from, int[] to) {
        System.arraycopy(from, 0, to, 0, Math.min(from.length, to.length));
    }

    /** A page: what is due at its places, and what became of them. A letter 0 is none. */
    private static final class Page {
        private final int[] due = new int[PAGE_ROOM];
        private final int[] told = new int[PAGE_ROOM];
        private final int[] written = new int[PAGE_ROOM];
        private final int[] writtenIn = new int[PAGE_ROOM];
        private final int[] blots = new int[PAGE_ROOM];
        private final int[] corrected = new int[PAGE_ROOM];
        private int places;
        private int corrections;

        void copyFrom(Page other) {
            copyRow(other.due, due);
            copyRow(other.told, told);
            copyRow(other.written, written);
            copyRow(other.writtenIn, writtenIn);
            copyRow(other.blots, blots);
            copyRow(other.corrected, corrected);
            places = other.places;
            corrections = other.corrections;
        }

        void begin(PageText text) {
            places = 2 * text.half;
            corrections = 0;
            clearRow(written);
            clearRow(writtenIn);
            clearRow(blots);
            clearRow(corrected);
            copyRow(text.misreadings, told);
            for (int p = 0; p < text.half; p++) {
                int letter = at(text.letters, p);
                put(due, p, letter);
                put(due, mirrorOf(p), letter);
            }
        }

        boolean has(int p) {
            return p >= 0 && p < places;
        }

        int mirrorOf(int p) {
            return places - 1 - p;
        }

        /** The letter that the scribe writes at a place, or would. */
        int letterFor(int p) {
            int misreading = at(told, p);
            return misreading != 0 ? misreading : at(due, p);
        }

        boolean isWritten(int p) {
            return at(written, p) != 0;
        }

        boolean isFaultless(int p) {
            return at(written, p) == at(due, p) && at(blots, p) == 0;
        }

        boolean areUnlike(int p, int q) {
            return isWritten(p) && isWritten(q) && at(written, p) != at(written, q);
        }

        void write(int p, int letter, boolean isBlot, int tick) {
            put(written, p, letter);
            put(blots, p, isBlot ? 1 : 0);
            put(writtenIn, p, tick);
        }

        void amend(int p) {
            put(written, p, at(due, p));
            put(blots, p, 0);
            put(corrected, p, 1);
            corrections++;
        }

        int countBlots() {
            int sum = 0;
            for (int p = 0; p < places; p++) {
                sum += at(blots, p);
            }
            return sum;
        }

        int countNotDue() {
            int sum = 0;
            for (int p = 0; p < places; p++) {
                if (isWritten(p) && at(written, p) != at(due, p)) {
                    sum++;
                }
            }
            return sum;
        }
    }

    /** A scribe, the pen, and what the scribe has done. */
    private static final class Scribe {
        private int pace = 2;
        private int letters;
        private int spent;
        private int dipLeft;
        private int dips;
        private int waits;
        private float pen;

        void copyFrom(Scribe other) {
            pace = other.pace;
            letters = other.letters;
            spent = other.spent;
            dipLeft = other.dipLeft;
            dips = other.dips;
            waits = other.waits;
            pen = other.pen;
        }

        void beginPage() {
            letters = 0;
            spent = 0;
        }
    }

    /** Everything but the text, the history and the snapshot. */
    private static final class State {
        private final Page page = new Page();
        private final Scribe left = new Scribe();
        private final Scribe right = new Scribe();
        private final int[] settings = {2, 7, 4};
        private float well = 4.0f;
        private float letterInk;
        private float correctionInk;
        private int tick;
        private int pages;
        private int letters;
        private int poured;

        void copyFrom(State other) {
            page.copyFrom(other.page);
            left.copyFrom(other.left);
            right.copyFrom(other.right);
            copyRow(other.settings, settings);
            well = other.well;
            letterInk = other.letterInk;
            correctionInk = other.correctionInk;
            tick = other.tick;
            pages = other.pages;
            letters = other.letters;
            poured = other.poured;
        }

        Scribe scribeOf(int who) {
            return who == 0 ? left : right;
        }

        void beginPage(PageText text) {
            page.begin(text);
            left.beginPage();
            right.beginPage();
            pages++;
        }

        int lettersOnPage() {
            return left.letters + right.letters;
        }

        boolean isDone() {
            return lettersOnPage() >= page.places;
        }

        int nextPlaceOf(int who) {
            int letters = scribeOf(who).letters;
            if (letters >= page.places / 2) {
                return NONE;
            }
            return who == 0 ? letters : page.mirrorOf(letters);
        }

        /** Whether a place is written or a tick was spent on it. */
        boolean isBegun(int p) {
            return page.isWritten(p)
                    || left.spent > 0 && nextPlaceOf(0) == p
                    || right.spent > 0 && nextPlaceOf(1) == p;
        }

        int correctionsLeft() {
            return Math.max(0, at(settings, CORRECTIONS) - page.corrections);
        }

        boolean canCorrect(int p) {
            return page.isWritten(p)
                    && correctionsLeft() > 0
                    && well >= inkFor(at(page.due, p));
        }

        void makeCorrection(int p) {
            float need = inkFor(at(page.due, p));
            well -= need;
            correctionInk += need;
            page.amend(p);
        }

        int deedOf(int who) {
            Scribe self = scribeOf(who);
            if (self.dipLeft > 0) {
                return DIPS;
            }
            int p = nextPlaceOf(who);
            if (p == NONE) {
                return RESTS;
            }
            if (self.spent > 0 || self.pen >= inkFor(page.letterFor(p))) {
                return WRITES;
            }
            if (scribeOf(1 - who).dipLeft > 0) {
                return WAITS_FOR_OTHER;
            }
            return well > 0.0f ? BEGINS_TO_DIP : WAITS_FOR_INK;
        }

        int takeTurn(int who) {
            Scribe self = scribeOf(who);
            int deed = deedOf(who);
            switch (deed) {
                case WRITES:
                    spendTick(who);
                    break;
                case DIPS:
                    goOnDipping(self);
                    break;
                case BEGINS_TO_DIP:
                    self.dipLeft = at(settings, DIP_TICKS);
                    break;
                case WAITS_FOR_OTHER:
                case WAITS_FOR_INK:
                    self.waits++;
                    break;
                default:
                    break;
            }
            return deed;
        }

        private void goOnDipping(Scribe self) {
            self.dipLeft--;
            if (self.dipLeft > 0) {
                return;
            }
            float wanted = 1.0f - self.pen;
            float got = well < wanted ? well : wanted;
            self.pen += got;
            well -= got;
            self.dips++;
        }

        private void spendTick(int who) {
            Scribe self = scribeOf(who);
            self.spent++;
            // A pace that was lowered may lie below the ticks that are spent already.
            if (self.spent < self.pace) {
                return;
            }
            int p = nextPlaceOf(who);
            int letter = page.letterFor(p);
            float need = inkFor(letter);
            boolean isBlot = self.pen > (float) at(settings, BLOT_EIGHTHS) / 8;
            page.write(p, letter, isBlot, tick);
            self.pen -= need;
            letterInk += need;
            self.spent = 0;
            self.letters++;
            letters++;
        }

        /** Answers whether a scribe dipped or wrote. */
        boolean passTick() {
            tick++;
            int first = takeTurn(0);
            int second = takeTurn(1);
            return first <= BEGINS_TO_DIP || second <= BEGINS_TO_DIP;
        }

        /** Lets ticks pass until the page is done, and answers how many, or NONE. */
        int runUntilDone() {
            for (int ticks = 0; ticks <= HORIZON; ticks++) {
                if (isDone()) {
                    return ticks;
                }
                // When both wait for ink or rest, no later tick brings anything else.
                if (!passTick()) {
                    return NONE;
                }
            }
            return NONE;
        }
    }

    /** The latest states, the oldest first in a ring of rows that are made once. */
    private static final class History {
        private final State[] states = new State[HISTORY_ROOM];
        private int first;
        private int size;

        History() {
            for (int i = 0; i < states.length; i++) {
                states[i] = new State();
            }
        }

        void record(State state) {
            if (size == HISTORY_ROOM) {
                first = (first + 1) % HISTORY_ROOM;
                size--;
            }
            State free = stateAt(size);
            if (free != null) {
                free.copyFrom(state);
                size++;
            }
        }

        /** Restores the latest state into the one that is given, if there is one. */
        boolean takeBack(State state) {
            if (size == 0) {
                return false;
            }
            State latest = stateAt(size - 1);
            if (latest == null) {
                return false;
            }
            state.copyFrom(latest);
            size--;
            return true;
        }

        private State stateAt(int age) {
            int index = (first + age) % HISTORY_ROOM;
            return index >= 0 && index < states.length ? states[index] : null;
        }
    }

    /** The text, and the page that findFault() found in it. */
    private static final class PageText {
        private final char[] characters = new char[TEXT_ROOM];
        private final int[] letters = new int[HALF_ROOM];
        private final int[] misreadings = new int[PAGE_ROOM];
        private int length;
        private int half;
        private int farthest;
        private int cursor;

        boolean append(char character) {
            if (length < 0 || length >= characters.length) {
                return false;
            }
            characters[length] = character;
            length++;
            return true;
        }

        /** Reads the text as a page, and answers the index of its fault, or NO_FAULT. */
        int findFault() {
            readHalf();
            if (half == 0) {
                return cursor;
            }
            if (cursor == length) {
                return NO_FAULT;
            }
            if (!skip('!')) {
                return cursor;
            }
            for (int i = 0; i < TEXT_ROOM; i++) {
                if (!readMisreading()) {
                    return cursor;
                }
                if (cursor == length) {
                    return NO_FAULT;
                }
                if (!skip(',')) {
                    return cursor;
                }
            }
            return cursor;
        }

        private void readHalf() {
            cursor = 0;
            half = 0;
            farthest = -1;
            clearRow(misreadings);
            for (int p = 0; p < HALF_ROOM; p++) {
                int letter = letterAtCursor();
                if (letter == 0) {
                    return;
                }
                put(letters, p, letter);
                half++;
                cursor++;
            }
        }

        /** Leaves the cursor at the fault if it answers false. */
        private boolean readMisreading() {
            int number = digitAtCursor();
            if (number < 0) {
                return false;
            }
            cursor++;
            int digit = digitAtCursor();
            if (number != 0 && digit >= 0 && number * 10 + digit <= GREATEST_PLACE) {
                number = number * 10 + digit;
                cursor++;
            }
            int letter = letterAtCursor();
            if (letter == 0) {
                return false;
            }
            put(misreadings, number, letter);
            farthest = Math.max(farthest, number);
            cursor++;
            return true;
        }

        private boolean skip(char sign) {
            if (!isAtCharacter() || characters[cursor] != sign) {
                return false;
            }
            cursor++;
            return true;
        }

        private int letterAtCursor() {
            if (!isAtCharacter()) {
                return 0;
            }
            char c = characters[cursor];
            return c >= 'a' && c <= 'z' ? c - 'a' + 1 : 0;
        }

        private int digitAtCursor() {
            if (!isAtCharacter()) {
                return -1;
            }
            char c = characters[cursor];
            return c >= '0' && c <= '9' ? c - '0' : -1;
        }

        private boolean isAtCharacter() {
            return cursor >= 0 && cursor < length && cursor < characters.length;
        }
    }
}
