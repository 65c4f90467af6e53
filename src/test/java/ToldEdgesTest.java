/** The edges of what is told (promises 14 to 23), by sentences. */
final class ToldEdgesTest {
    private static final int MIN = Integer.MIN_VALUE;
    private static final int MAX = Integer.MAX_VALUE;
    private static final int[] ENDS = {MIN, MIN + 1, MAX - 1, MAX};
    /** Uses up all ink: both pens and the well are empty then. */
    private static final String DRAIN = "pppppppppppppppppppp";

    public static void main(String[] args) {
        placeArguments();
        placeTicks();
        scribeArguments();
        scribeAtTheEnds();
        inkArguments();
        inkAtTheEnds();
        countArguments();
        countAtTheEnds();
        askingChangesNothing();
        nextArguments();
        nextOfScribe0();
        nextOfScribe1();
        nextOfScribe1BehindScribe0();
        nextWithATickSpent();
        doneInAtTheEnds();
        doneInGoesDown();
        doneInWithJustEnoughInk();
        theSlowestPageIsDone();
        noPairs();
        aPairOfWhichOneIsWritten();
        allPairs();
        neededAtTheEnds();
        noBestPace();
        theBestPaceOfTheLastTick();
        theLeastAndTheGreatestPace();
        somePacesAlone();
        Check.finish();
    }

    // place, "place: a place of the page", "what: 0 .. 6"
    private static void placeArguments() {
        for (int place : new int[] {MIN, -40, -1, 6, 7, 39, 40, MAX}) {
            for (int what : new int[] {MIN, -1, 0, 6, 7, MAX}) {
                Refusal.refused("place(" + place + ", " + what + ")", Refusal.BUSY,
                        x -> x.place(place, what), TwoScribes.UNKNOWN);
            }
        }
        for (int what : new int[] {MIN, -1, 7, 8, MAX}) {
            Refusal.refused("place(0, " + what + ")", Refusal.BUSY, x -> x.place(0, what), -2);
            Refusal.refused("place(5, " + what + ")", Refusal.BUSY, x -> x.place(5, what), -2);
            Refusal.refused("no page, place(0, " + what + ")", Refusal.FRESH,
                    x -> x.place(0, what), TwoScribes.UNKNOWN);
        }
        for (int end : ENDS) {
            Refusal.refused("place(3, " + end + ")", Refusal.BUSY, x -> x.place(3, end), -2);
            Refusal.refused("place(" + end + ", 3)", Refusal.BUSY, x -> x.place(end, 3), -1);
        }
    }

    // "6 for the tick in which it was written (from 1, NONE if it is not)"
    private static void placeTicks() {
        TwoScribes x = Check.withPage("ab");
        x.set(0, 1);
        x.setPace(0, 1);
        x.setPace(1, 1);
        Check.due("not written", x.place(0, 6), TwoScribes.NONE);
        x.pass(2);
        Check.due("not written at 2", x.place(0, 6), TwoScribes.NONE);
        x.pass(1);
        Check.due("as early as can be", x.place(0, 6), 3);
        Check.due("the tick", x.count(0), 3);
        x.pass(1);
        Check.due("in the tick 4", x.place(1, 6), 4);
        Check.due("1 too", x.place(3, 6), 4);
        Check.due("the last is not written", x.place(2, 6), TwoScribes.NONE);
        x.pass(99);
        Check.due("the last", x.place(2, 6), 5);
        Check.due("a begun one is not written", begun().place(0, 6), TwoScribes.NONE);
        Check.due("nor told as a letter", begun().place(0, 1), 0);
    }

    private static TwoScribes begun() {
        TwoScribes x = Check.withPage("ab");
        x.pass(4);
        return x;
    }

    // scribe, "scribe: 0 or 1", "what: 0 .. 6"
    private static void scribeArguments() {
        for (int scribe : new int[] {MIN, -1, 2, 3, MAX}) {
            for (int what : new int[] {MIN, -1, 0, 6, 7, MAX}) {
                Refusal.refusedAlways("scribe(" + scribe + ", " + what + ")",
                        x -> x.scribe(scribe, what), TwoScribes.UNKNOWN);
            }
        }
        for (int what : new int[] {MIN, -1, 7, 8, MAX}) {
            Refusal.refusedAlways("scribe(0, " + what + ")", x -> x.scribe(0, what), -2);
            Refusal.refusedAlways("scribe(1, " + what + ")", x -> x.scribe(1, what), -2);
        }
    }

    // "2 for the place of the next letter (NONE if there is none) .. 4 .. (0 if the scribe does not
    // dip)"
    private static void scribeAtTheEnds() {
        TwoScribes x = Check.withPage("ab");
        int none = TwoScribes.NONE;
        int[][] next = {{0, 3}, {0, 3}, {0, 3}, {0, 3}, {1, 3}, {1, 3}, {none, 2}, {none, 2}, {none, none}};
        int[][] spent = {{0, 0}, {0, 0}, {0, 0}, {1, 0}, {0, 0}, {1, 1}, {0, 0}, {0, 1}, {0, 0}};
        int[][] left = {{2, 0}, {1, 0}, {0, 2}, {0, 1}, {0, 0}, {0, 0}, {0, 0}, {0, 0}, {0, 0}};
        int[][] dips = {{0, 0}, {0, 0}, {1, 0}, {1, 0}, {1, 1}, {1, 1}, {1, 1}, {1, 1}, {1, 1}};
        int[][] waits = {{0, 1}, {0, 2}, {0, 2}, {0, 2}, {0, 2}, {0, 2}, {0, 2}, {0, 2}, {0, 2}};
        for (int tick = 1; tick <= 9; tick++) {
            x.pass(1);
            for (int s = 0; s < 2; s++) {
                String name = " of " + s + " in the tick " + tick;
                Check.due("next place" + name, x.scribe(s, 2), next[tick - 1][s]);
                Check.due("spent" + name, x.scribe(s, 3), spent[tick - 1][s]);
                Check.due("dipping" + name, x.scribe(s, 4), left[tick - 1][s]);
                Check.due("dips" + name, x.scribe(s, 5), dips[tick - 1][s]);
                Check.due("waiting" + name, x.scribe(s, 6), waits[tick - 1][s]);
            }
        }
        Check.due("dips and waiting are told so far", Check.read(x, "c"), 2);
        Check.due("dips stay", x.scribe(1, 5), 1);
        Check.due("waiting stays", x.scribe(1, 6), 2);
        Check.due("letters are those of this page", x.scribe(1, 1), 0);
    }

    // ink, "-1.0 for another what"
    private static void inkArguments() {
        for (int what : new int[] {MIN, -2, -1, 5, 6, MAX}) {
            Refusal.refusedAlways("ink(" + what + ")", x -> (int) (4 * x.ink(what)), -4);
        }
    }

    private static void inkAtTheEnds() {
        TwoScribes x = Check.withPage(DRAIN);
        x.pass(99);
        double[] drained = {0.0, 0.0, 0.0, 4.0, 0.0};
        for (int what = 0; what < 5; what++) {
            Check.dueInk("drained: ink(" + what + ")", x.ink(what), drained[what]);
        }
        Check.due("sixteen letters", x.count(7), 16);
        TwoScribes y = Check.withPage("a");
        for (int i = 0; i < 124; i++) {
            y.pour(80);
        }
        y.pour(79);
        Check.dueInk("the fullest well", y.ink(2), 4 + 9999 / 8.0);
        y.pass(30);
        Check.dueInk("less two pens", y.ink(2), 2 + 9999 / 8.0);
        y.correct(0);
        Check.dueInk("less a letter", y.ink(2), 2 + 9999 / 8.0 - 1 / 64.0);
        Check.dueInk("letters so far", y.ink(3), 2 / 64.0);
        Check.dueInk("corrections so far", y.ink(4), 1 / 64.0);
    }

    // count, "what: 0 .. 13"
    private static void countArguments() {
        for (int what : new int[] {MIN, -2, -1, 14, 15, MAX}) {
            Refusal.refusedAlways("count(" + what + ")", x -> x.count(what), TwoScribes.BAD_VALUE);
        }
    }

    private static void countAtTheEnds() {
        TwoScribes x = new TwoScribes();
        int[] first = {0, 0, 0, 0, 0, 4, 0, 0, 0, 2, 7, 4, 0, 0};
        for (int what = 0; what <= 13; what++) {
            Check.due("at first: count(" + what + ")", x.count(what), first[what]);
        }
        Check.read(x, "aaaaaaaaaaaaaaaaaaaa");
        for (int p = 20; p < 40; p++) {
            x.misread(p, 2);
        }
        x.set(1, 0);
        x.set(2, 20);
        x.pass(99);
        int[] last = {99, 40, 40, 40, 20, 20, 1, 40, 0, 2, 0, 20, 4, 20};
        for (int what = 0; what <= 13; what++) {
            Check.due("at last: count(" + what + ")", x.count(what), last[what]);
        }
        for (int p = 20; p < 40; p++) {
            x.correct(p);
            Check.due("not due", x.count(4), 39 - p);
            Check.due("blots", x.count(3), 59 - p);
            Check.due("corrections left", x.count(5), 39 - p);
        }
        TwoScribes y = Check.withPage("hh!3z");
        y.pass(6);
        Check.due("what is misread and not written is not counted", y.count(4), 0);
        Check.due("one is written", y.count(2), 1);
        y.pass(1);
        Check.due("written, it is", y.count(4), 1);
    }

    /** What only tells must leave no trace, whatever it answers. */
    private static void askingChangesNothing() {
        Refusal.Call[] asking = {
            x -> x.next(0), x -> x.next(1), x -> x.doneIn(), x -> x.unlikePairs(),
            x -> x.unlikeReadings(), x -> x.bestPace(0), x -> x.bestPace(1), x -> x.place(2, 6),
            x -> x.scribe(1, 2), x -> x.count(5), x -> (int) (64 * x.needed()),
            x -> (int) (64 * x.ink(2))
        };
        for (Refusal.Call call : asking) {
            for (Refusal.Setup setup : new Refusal.Setup[] {Refusal.FRESH, Refusal.BUSY}) {
                TwoScribes x = new TwoScribes();
                setup.on(x);
                Refusal.refused("asking", setup, call, call.on(x));
            }
        }
    }

    // next, "scribe: 0 or 1"
    private static void nextArguments() {
        for (int scribe : new int[] {MIN, -1, 2, 3, MAX}) {
            Refusal.refusedAlways("next(" + scribe + ")", x -> x.next(scribe), TwoScribes.UNKNOWN);
            Refusal.refusedAlways("bestPace(" + scribe + ")", x -> x.bestPace(scribe), -1);
        }
    }

    private static void next(TwoScribes x, String name, int due0, int due1) {
        Check.due("next(0), " + name, x.next(0), due0);
        Check.due("next(1), " + name, x.next(1), due1);
    }

    // "0 a tick of a letter is spent, 1 a tick of dipping, 2 begins to dip, 3 waits as the other one
    // dips, 4 waits as the well is empty, 5 rests"
    private static void nextOfScribe0() {
        TwoScribes x = new TwoScribes();
        next(x, "without a page", 5, 5);
        Check.read(x, "ppppp");
        int[] due = {2, 1, 1, 0, 0, 0, 0, 0, 0, 0, 0, 2, 1, 1, 0, 0, 5, 5};
        for (int tick = 1; tick <= due.length; tick++) {
            Check.due("next(0) ahead of the tick " + tick, x.next(0), due[tick - 1]);
            x.pass(1);
        }
        TwoScribes y = Check.withPage(DRAIN);
        y.pass(99);
        next(y, "drained", 4, 4);
        y.pour(1);
        next(y, "with 1/8", 2, 3);
        y.pass(1);
        next(y, "dipping", 1, 3);
        y.pass(1);
        next(y, "with its last tick, taking all", 1, 4);
        y.pass(1);
        next(y, "with 1/8 in the pen, too little for p", 4, 4);
        Check.read(y, "h");
        next(y, "just enough for h", 0, 4);
        y.pass(2);
        next(y, "0 is through", 5, 4);
    }

    private static void nextOfScribe1() {
        TwoScribes x = Check.withPage("ppppp");
        int[] due = {3, 3, 2, 1, 1, 0, 0, 0, 0, 0, 0, 0, 0, 2, 1, 1, 0, 0, 5};
        for (int tick = 1; tick <= due.length; tick++) {
            Check.due("next(1) ahead of the tick " + tick, x.next(1), due[tick - 1]);
            x.pass(1);
        }
        // 1 dips ahead of 0, who waits.
        TwoScribes y = Check.withPage("ppppp");
        y.setPace(1, 1);
        y.pass(8);
        next(y, "1 has one letter more", 0, 0);
        y.pass(1);
        next(y, "1 dips ahead of 0", 0, 2);
        y.pass(1);
        next(y, "0 has its last tick of four letters", 0, 1);
        y.pass(1);
        next(y, "0 waits for 1, who ends behind it", 3, 1);
        y.pass(1);
        next(y, "0 begins", 2, 0);
    }

    // "(for the scribe 1, as things are behind the scribe 0 of that tick)"
    private static void nextOfScribe1BehindScribe0() {
        TwoScribes x = Check.withPage(DRAIN);
        x.pass(99);
        x.pour(8);
        next(x, "0 begins, so 1 waits", 2, 3);
        x.pass(2);
        next(x, "0 takes all, so 1 waits for ink", 1, 4);
        x.pour(1);
        next(x, "0 leaves 1/8, so 1 begins", 1, 2);
        x.undo();
        next(x, "0 takes all again", 1, 4);
        x.pass(1);
        next(x, "as told", 0, 4);
        Check.dueInk("the well", x.ink(2), 0.0);
    }

    // "if the pen has less ink .., and no tick of that letter was spent yet"; "otherwise a tick is
    // spent"
    private static void nextWithATickSpent() {
        TwoScribes x = Check.withPage("zwoa");
        x.setPace(0, 9);
        x.pass(3 + 18 + 1);
        Check.dueInk("just enough for o", x.ink(0), 15 / 64.0);
        Check.due("a tick of o is spent", x.scribe(0, 3), 1);
        for (int i = 1; i < 9; i++) {
            Check.due("next(0)", x.next(0), 0);
            x.pass(1);
        }
        Check.dueInk("the pen is empty", x.ink(0), 0.0);
        Check.due("0 dips for a", x.next(0), 2);
    }

    // doneIn, "0 if it is (or there is no page)"
    private static void doneInAtTheEnds() {
        TwoScribes x = new TwoScribes();
        Check.due("no page", x.doneIn(), 0);
        x.pass(99);
        Check.due("still none", x.doneIn(), 0);
        Check.read(x, "a");
        Check.due("the least page", x.doneIn(), 7);
        x.pass(6);
        Check.due("a tick ahead of the end", x.doneIn(), 1);
        x.pass(1);
        Check.due("at the end", x.doneIn(), 0);
        x.pass(1);
        Check.due("behind the end", x.doneIn(), 0);
        x.undo();
        x.undo();
        Check.due("undone", x.doneIn(), 1);
        x.setPace(1, 9);
        Check.due("with 8 ticks more", x.doneIn(), 8);
        x.setPace(1, 1);
        Check.due("with one tick at least", x.doneIn(), 1);
    }

    private static void doneInGoesDown() {
        String[] texts = {"a", "zz", "pppppppp", "abcdefghijk!3z,9q", "zzzzz!0a,1a,2a,3a"};
        for (String text : texts) {
            TwoScribes x = Check.withPage(text);
            int due = x.doneIn();
            Check.holds("it is done some day: " + text, due > 0);
            for (int left = due - 1; left >= 0; left--) {
                Check.holds("not done yet", x.count(2) < x.count(1));
                x.pass(1);
                Check.due("doneIn() of " + text, x.doneIn(), left);
            }
            Check.due("done", x.count(2), x.count(1));
        }
    }

    // "NONE if that is not within 2000": as the ink does not suffice
    private static void doneInWithJustEnoughInk() {
        TwoScribes x = Check.withPage("pppppppp");
        Check.dueInk("needed", x.needed(), 4.0);
        Check.holds("just enough", x.doneIn() > 0);
        x.pass(1);
        x.misread(15, 17);
        Check.dueInk("needed", x.needed(), 257 / 64.0);
        Check.holds("1 writes q, and has too little for its last p", x.doneIn() == TwoScribes.NONE);
        Check.due("no best pace then", x.bestPace(0), TwoScribes.NONE);
        Check.due("nor of 1", x.bestPace(1), TwoScribes.NONE);
        x.pour(1);
        Check.holds("but with 1/8 more", x.doneIn() > 0);
        x.undo();
        Check.due("without it", x.doneIn(), TwoScribes.NONE);
        x.pass(99);
        Check.due("one is left", x.count(2), 15);
        Check.due("for ever", x.doneIn(), TwoScribes.NONE);
        x.pour(1);
        Check.due("3 ticks of dipping, 2 of writing", x.doneIn(), 5);
    }

    /** A page with all that makes it slow is done long ahead of 2000. */
    private static void theSlowestPageIsDone() {
        TwoScribes x = Check.withPage("zzzzzzzzzzzzzzzzzzzz");
        x.pour(80);
        x.pour(80);
        x.setPace(0, 9);
        x.setPace(1, 9);
        x.set(0, 9);
        int due = x.doneIn();
        int passed = 0;
        while (passed < 400 && x.count(2) < 40) {
            x.pass(1);
            passed++;
        }
        Check.due("doneIn()", due, passed);
        Check.holds("it is far below 2000", due > 180 && due < 400);
    }

    private static void unlike(String name, TwoScribes x, int pairs) {
        Check.due("unlikePairs(), " + name, x.unlikePairs(), pairs);
        Check.due("unlikeReadings(), " + name, x.unlikeReadings(), pairs);
    }

    private static void noPairs() {
        unlike("no page", new TwoScribes(), 0);
        TwoScribes x = Check.withPage("a!0b,1c");
        unlike("nothing is written", x, 0);
        TwoScribes y = Check.withPage("a!0c,1c");
        y.pass(30);
        Check.due("both are not due", y.count(4), 2);
        unlike("but alike", y, 0);
    }

    private static void aPairOfWhichOneIsWritten() {
        TwoScribes x = Check.withPage("a!1c");
        x.pass(6);
        Check.due("one is written", x.count(2), 1);
        unlike("the other is not", x, 0);
        x.pass(1);
        unlike("both are", x, 1);
        x.undo();
        unlike("undone", x, 0);
        // 1 alone writes: 0 has too slow a pace.
        TwoScribes y = Check.withPage("a!1c");
        y.setPace(0, 9);
        y.pass(7);
        Check.due("1 has written", y.place(1, 1), 3);
        unlike("0 has not", y, 0);
    }

    private static void allPairs() {
        TwoScribes x = Check.withPage("aaaaaaaaaaaaaaaaaaaa");
        for (int p = 20; p < 40; p++) {
            x.misread(p, p - 19);
        }
        x.pour(80);
        x.pass(99);
        Check.due("all are written", x.count(2), 40);
        unlike("all but that in the middle", x, 19);
        for (int only = 0; only < 10; only++) {
            TwoScribes y = Check.withPage("abcdefghij!" + only + "z");
            y.pass(99);
            unlike("the pair of " + only, y, 1);
            y.correct(only);
            unlike("corrected", y, 0);
            TwoScribes z = Check.withPage("abcdefghij!" + (19 - only) + "z");
            z.pass(99);
            unlike("the pair of " + (19 - only), z, 1);
        }
        TwoScribes w = Check.withPage("aaaaaaaaaaaaaaaaaaaa");
        for (int p = 0; p < 20; p++) {
            w.misread(p, 2);
        }
        w.pass(99);
        unlike("all of them", w, 20);
    }

    // needed, "all letters .. that are not written yet .. (misreadings as they are told)"
    private static void neededAtTheEnds() {
        TwoScribes x = new TwoScribes();
        Check.dueInk("no page", x.needed(), 0.0);
        Check.read(x, "a");
        Check.dueInk("the least", x.needed(), 2 / 64.0);
        x.misread(1, 26);
        Check.dueInk("with a misreading", x.needed(), 27 / 64.0);
        x.pass(4);
        Check.dueInk("a tick is spent", x.needed(), 27 / 64.0);
        x.pass(1);
        Check.dueInk("one is written", x.needed(), 26 / 64.0);
        x.pass(2);
        Check.dueInk("both are", x.needed(), 0.0);
        Check.read(x, "zzzzzzzzzzzzzzzzzzzz");
        Check.dueInk("the most", x.needed(), 40 * 26 / 64.0);
        for (int p = 0; p < 40; p++) {
            x.misread(p, 1);
        }
        Check.dueInk("all misread", x.needed(), 40 / 64.0);
        TwoScribes y = Check.withPage("z!0a");
        y.pass(5);
        Check.dueInk("a misread one is written", y.needed(), 26 / 64.0);
        y.pass(9);
        y.correct(0);
        Check.dueInk("corrections need none of it", y.needed(), 0.0);
    }

    // bestPace, "NONE if the page is done, or would not be within 2000 ticks with any"
    private static void noBestPace() {
        for (int s = 0; s < 2; s++) {
            int scribe = s;
            Refusal.refused("no page", Refusal.FRESH, x -> x.bestPace(scribe), TwoScribes.NONE);
            Refusal.refused("the page is done", x -> {
                Check.read(x, "ab");
                x.pass(9);
            }, x -> x.bestPace(scribe), TwoScribes.NONE);
            Refusal.refused("too little ink", x -> Check.read(x, DRAIN), x -> x.bestPace(scribe), -5);
        }
        TwoScribes x = Check.withPage("ab");
        x.pass(8);
        Check.due("a tick ahead of the end", x.bestPace(1), 2);
        Check.due("0 has nothing to write", x.bestPace(0), 9);
        x.pass(1);
        Check.due("at the end", x.bestPace(1), TwoScribes.NONE);
        Check.due("at the end, 0", x.bestPace(0), TwoScribes.NONE);
        Check.due("UNKNOWN is first", x.bestPace(2), TwoScribes.UNKNOWN);
    }

    // "a letter that is begun takes the new one, but at least one tick more"
    private static void theBestPaceOfTheLastTick() {
        for (int spent = 0; spent <= 8; spent++) {
            TwoScribes x = Check.withPage("a");
            x.setPace(1, 9);
            x.pass(5);
            if (spent > 0) {
                x.pass(spent);
            }
            Check.due("spent", x.scribe(1, 3), spent);
            Check.due("bestPace(1) with " + spent, x.bestPace(1), spent + 1);
            Check.due("bestPace(0) with " + spent, x.bestPace(0), 9);
            Check.due("doneIn() as it is", x.doneIn(), 9 - spent);
            x.setPace(1, spent == 8 ? 1 : spent + 1);
            Check.due("doneIn() with it", x.doneIn(), 1);
        }
    }

    // "of several the greatest"
    private static void theLeastAndTheGreatestPace() {
        TwoScribes x = Check.withPage("a");
        Check.due("1 is the last: it must haste", x.bestPace(1), 1);
        for (int pace = 1; pace <= 9; pace++) {
            TwoScribes y = Check.withPage("a");
            y.setPace(1, 9);
            if (pace < 9) {
                y.setPace(1, pace);
            }
            // 1 is through behind 5 + its pace, and 0 behind 3 + its own.
            Check.due("0 has time, 1 takes " + pace, y.bestPace(0), Math.min(9, pace + 2));
            y.setPace(0, 9);
            Check.due("1 has time for 7, 0 takes 9", y.bestPace(1), 7);
        }
    }

    /**
     * With 40/64 in the well, 0 with an empty pen would take all and leave 1 without; if 1 dips
     * first, the 1/64 that is left is just enough for 0.
     */
    private static void somePacesAlone() {
        TwoScribes x = Check.withPage(DRAIN);
        x.pass(99);
        Check.read(x, "ppppa!9j,8j,7j,6i,5z");
        x.pour(21);
        Check.due("0 takes all", x.doneIn(), TwoScribes.NONE);
        Check.due("bestPace(0)", x.bestPace(0), 3);
        Check.due("bestPace(1)", x.bestPace(1), 1);
        x.setPace(0, 1);
        Check.due("the more so with 1", x.doneIn(), TwoScribes.NONE);
        x.setPace(0, 3);
        Check.due("0 with 3", x.doneIn(), 22);
        x.setPace(0, 4);
        Check.due("0 with 4", x.doneIn(), 26);
        x.setPace(0, 2);
        x.setPace(1, 1);
        Check.due("1 with 1", x.doneIn(), 17);
        Check.due("1 would be too early for 0 then, and 3 slower", x.bestPace(0), 2);
        x.pass(17);
        Check.due("all is written", x.count(2), 10);
        Check.dueInk("and no ink is left in the pen", x.ink(0), 0.0);
        Check.dueInk("nor in the well", x.ink(2), 0.0);
    }
}
