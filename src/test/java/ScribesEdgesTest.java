/** The edges of scribes, pens and the well (promises 5 to 8), by sentences. */
final class ScribesEdgesTest {
    private static final int MIN = Integer.MIN_VALUE;
    private static final int MAX = Integer.MAX_VALUE;

    public static void main(String[] args) {
        setPaceArguments();
        everyPaceTakesItsTicks();
        aLetterThatIsBegun();
        pourArguments();
        pourUntilFull();
        setArguments();
        everySettingInItsRange();
        aDipTakesAsManyTicks();
        aDipThatIsBegunStays();
        thePenIsFilled();
        aPenWithJustEnough();
        theWellHasJustEnough();
        lessThanIsWanted();
        moreThanIsWanted();
        aDipIntoAnEmptyWell();
        theOtherDipsAndTheWellIsEmpty();
        aDropInTheWellIsInk();
        blotsAtTheSetting();
        blotsJustAboveTheSetting();
        scribe0GoesFirst();
        whoRestsDoesNotWait();
        passArguments();
        passCountsLetters();
        theTickHasAnEnd();
        fiveHundredAndTwelveCalls();
        Check.finish();
    }

    // setPace, "scribe: 0 or 1", "ticks: 1 to 9", "NONE if it is so already"
    private static void setPaceArguments() {
        for (int scribe : new int[] {MIN, -2, -1, 2, 3, MAX}) {
            Refusal.refusedAlways("setPace(" + scribe + ", 5)", x -> x.setPace(scribe, 5), -1);
            Refusal.refusedAlways("setPace(" + scribe + ", 0)", x -> x.setPace(scribe, 0), -1);
        }
        for (int ticks : new int[] {MIN, -1, 0, 10, 11, MAX}) {
            Refusal.refusedAlways("setPace(0, " + ticks + ")", x -> x.setPace(0, ticks), -2);
            Refusal.refusedAlways("setPace(1, " + ticks + ")", x -> x.setPace(1, ticks), -2);
        }
        Refusal.refusedAlways("setPace(0, 2)", x -> x.setPace(0, 2), TwoScribes.NONE);
        Refusal.refused("setPace(1, 2)", Refusal.FRESH, x -> x.setPace(1, 2), TwoScribes.NONE);
        Refusal.refused("setPace(1, 3)", Refusal.BUSY, x -> x.setPace(1, 3), TwoScribes.NONE);
        Refusal.refused("setPace(1, 9)", x -> x.setPace(1, 9), x -> x.setPace(1, 9), -5);
        Refusal.refused("setPace(0, 1)", x -> x.setPace(0, 1), x -> x.setPace(0, 1), -5);
        for (int scribe = 0; scribe < 2; scribe++) {
            TwoScribes x = new TwoScribes();
            int previous = 2;
            for (int ticks : new int[] {1, 2, 3, 4, 5, 6, 7, 8, 9, 1, 9}) {
                Check.due("setPace(" + ticks + ")", x.setPace(scribe, ticks), previous);
                Check.due("the pace", x.scribe(scribe, 0), ticks);
                Check.due("that of the other one", x.scribe(1 - scribe, 0), 2);
                previous = ticks;
            }
        }
    }

    // "a pace: the ticks that a letter takes (1 to 9; 2 at first)"
    private static void everyPaceTakesItsTicks() {
        for (int pace = 1; pace <= 9; pace++) {
            TwoScribes x = Check.withPage("aa");
            x.setPace(0, pace);
            x.pass(3);
            for (int tick = 1; tick < pace; tick++) {
                x.pass(1);
                Check.due("a tick that is not the last", x.scribe(0, 1), 0);
                Check.due("ticks spent", x.scribe(0, 3), tick);
                Check.dueInk("no ink is needed yet", x.ink(0), 1.0);
            }
            x.pass(1);
            Check.due("the last of its pace", x.scribe(0, 1), 1);
            Check.due("no tick is spent on the next", x.scribe(0, 3), 0);
            Check.dueInk("the ink", x.ink(0), 63 / 64.0);
            Check.due("written in", x.place(0, 6), 3 + pace);
        }
    }

    // "a letter that is begun takes the new one, but at least one tick more"
    private static void aLetterThatIsBegun() {
        for (int scribe = 0; scribe < 2; scribe++) {
            for (int old = 2; old <= 9; old++) {
                for (int spent = 1; spent < old; spent++) {
                    for (int pace = 1; pace <= 9; pace++) {
                        if (pace != old) {
                            newPaceInTheMidst(scribe, old, spent, pace);
                        }
                    }
                }
            }
        }
    }

    private static void newPaceInTheMidst(int scribe, int old, int spent, int pace) {
        String name = "scribe " + scribe + ", " + spent + " of " + old + ", then " + pace + ": ";
        TwoScribes x = Check.withPage("aaaa");
        x.setPace(scribe, old);
        x.setPace(1 - scribe, old == 9 ? 8 : 9);
        x.pass(3 + 2 * scribe + spent);
        Check.due(name + "spent", x.scribe(scribe, 3), spent);
        Check.due(name + "setPace()", x.setPace(scribe, pace), old);
        Check.due(name + "they stay spent", x.scribe(scribe, 3), spent);
        int more = Math.max(1, pace - spent);
        if (more > 1) {
            x.pass(more - 1);
        }
        Check.due(name + "not yet", x.scribe(scribe, 1), 0);
        x.pass(1);
        Check.due(name + "written", x.scribe(scribe, 1), 1);
        Check.due(name + "nothing is spent on the next", x.scribe(scribe, 3), 0);
        x.pass(pace);
        Check.due(name + "the next takes the new one", x.scribe(scribe, 1), 2);
    }

    // pour, "eighths: 1 to 80"
    private static void pourArguments() {
        for (int eighths : new int[] {MIN, -80, -1, 0, 81, 82, 9999, MAX}) {
            Refusal.refusedAlways("pour(" + eighths + ")", x -> x.pour(eighths), -2);
        }
        TwoScribes x = new TwoScribes();
        int poured = 0;
        for (int eighths = 1; eighths <= 80; eighths++) {
            poured += eighths;
            Check.due("pour(" + eighths + ")", x.pour(eighths), poured);
            Check.dueInk("the well", x.ink(2), 4 + poured / 8.0);
            Check.due("count(8)", x.count(8), poured);
        }
    }

    // "FULL if more than 9999 would have been"
    private static void pourUntilFull() {
        for (int left = 0; left <= 80; left++) {
            TwoScribes x = new TwoScribes();
            fill(x, left);
            Check.due("poured so far", x.count(8), 9999 - left);
            if (left < 80) {
                Check.due("one more than goes", x.pour(left + 1), TwoScribes.FULL);
                Check.due("80 are too many", x.pour(80), TwoScribes.FULL);
            }
            if (left > 0) {
                Check.due("all that goes", x.pour(left), 9999);
            }
            Check.due("then nothing goes", x.pour(1), TwoScribes.FULL);
            Check.dueInk("the well", x.ink(2), 4 + 9999 / 8.0);
            Check.due("BAD_VALUE is first", x.pour(81), TwoScribes.BAD_VALUE);
            Check.due("of 0 too", x.pour(0), TwoScribes.BAD_VALUE);
        }
        Refusal.refused("pour(1) into a full well", x -> fill(x, 0), x -> x.pour(1), -3);
        Refusal.refused("pour(2) with room for 1", x -> fill(x, 1), x -> x.pour(2), -3);
        Refusal.refused("pour(80) with room for 79", x -> fill(x, 79), x -> x.pour(80), -3);
        Refusal.refused("pour(81) into a full well", x -> fill(x, 0), x -> x.pour(81), -2);
        TwoScribes x = new TwoScribes();
        fill(x, 1);
        x.keep();
        x.pour(1);
        x.undo();
        Check.due("there is room again", x.pour(1), 9999);
        x.restore();
        Check.due("and by the snapshot", x.pour(1), 9999);
    }

    /** Pours until so many eighths are left. */
    private static void fill(TwoScribes x, int left) {
        int poured = 0;
        while (poured + 80 <= 9999 - left) {
            x.pour(80);
            poured += 80;
        }
        if (poured < 9999 - left) {
            x.pour(9999 - left - poured);
        }
    }

    // set, "which: 0 to 2", "value: in its range"
    private static void setArguments() {
        for (int which : new int[] {MIN, -1, 3, 4, 9, MAX}) {
            for (int value : new int[] {MIN, -1, 0, 1, 4, 20, MAX}) {
                Refusal.refused("set(" + which + ", " + value + ")", Refusal.BUSY,
                        x -> x.set(which, value), TwoScribes.UNKNOWN);
            }
        }
        badSetting(0, new int[] {MIN, -1, 0, 10, 11, 20, MAX});
        badSetting(1, new int[] {MIN, -1, 9, 10, 20, MAX});
        badSetting(2, new int[] {MIN, -1, 21, 22, MAX});
        int[] first = {2, 7, 4};
        for (int which = 0; which < 3; which++) {
            int setting = which;
            Refusal.refusedAlways("set(" + which + "), so already",
                    x -> x.set(setting, first[setting]), TwoScribes.NONE);
        }
    }

    private static void badSetting(int which, int[] values) {
        for (int value : values) {
            Refusal.refusedAlways("set(" + which + ", " + value + ")", x -> x.set(which, value), -2);
        }
    }

    // "1 to 9; 2 at first"; "0 to 8; 7 at first"; "0 to 20; 4 at first"
    private static void everySettingInItsRange() {
        int[] least = {1, 0, 0};
        int[] greatest = {9, 8, 20};
        int[] first = {2, 7, 4};
        for (int which = 0; which < 3; which++) {
            TwoScribes x = new TwoScribes();
            Check.due("at first", x.count(9 + which), first[which]);
            int previous = first[which];
            for (int value = least[which]; value <= greatest[which]; value++) {
                int due = value == previous ? TwoScribes.NONE : previous;
                Check.due("set(" + which + ", " + value + ")", x.set(which, value), due);
                Check.due("count(" + (9 + which) + ")", x.count(9 + which), value);
                Check.due("again", x.set(which, value), TwoScribes.NONE);
                previous = value;
            }
            Check.due("the least", x.set(which, least[which]), greatest[which]);
            Check.due("the greatest", x.set(which, greatest[which]), least[which]);
            for (int other = 0; other < 3; other++) {
                int due = other == which ? greatest[which] : first[other];
                Check.due("no other is set", x.count(9 + other), due);
            }
        }
    }

    // "begins to dip (that takes as many ticks as the setting 0 tells, this one not counted)"
    private static void aDipTakesAsManyTicks() {
        for (int ticks = 1; ticks <= 9; ticks++) {
            TwoScribes x = Check.withPage("a");
            x.set(0, ticks);
            x.pass(1);
            Check.due("the beginning", x.scribe(0, 4), ticks);
            for (int left = ticks; left > 0; left--) {
                Check.due("ticks left", x.scribe(0, 4), left);
                Check.due("next(0)", x.next(0), 1);
                Check.dueInk("no ink yet", x.ink(0), 0.0);
                Check.dueInk("nor from the well", x.ink(2), 4.0);
                Check.due("the dip is not over", x.scribe(0, 5), 0);
                x.pass(1);
            }
            Check.due("no tick is left", x.scribe(0, 4), 0);
            Check.due("the dip is over", x.scribe(0, 5), 1);
            Check.dueInk("the pen is full", x.ink(0), 1.0);
            Check.dueInk("the well", x.ink(2), 3.0);
            Check.due("1 has waited all the while", x.scribe(1, 6), ticks);
            Check.due("and begins", x.scribe(1, 4), ticks);
        }
    }

    private static void aDipThatIsBegunStays() {
        TwoScribes x = Check.withPage("a");
        x.pass(1);
        x.set(0, 9);
        Check.due("two ticks are left", x.scribe(0, 4), 2);
        x.pass(2);
        Check.due("and it is over", x.scribe(0, 5), 1);
        Check.due("the next takes nine", x.scribe(1, 4), 9);
        x.set(0, 1);
        x.pass(8);
        Check.due("also if it gets shorter", x.scribe(1, 4), 1);
    }

    // "Each scribe has a pen with ink, 0 to 1 (0 at first)"; "the pen gets 1 less its ink"
    private static void thePenIsFilled() {
        TwoScribes x = Check.withPage("zzz");
        Check.dueInk("the pen of 0 at first", x.ink(0), 0.0);
        Check.dueInk("the pen of 1 at first", x.ink(1), 0.0);
        x.pass(3);
        Check.dueInk("full", x.ink(0), 1.0);
        x.pass(4);
        Check.dueInk("two letters less", x.ink(0), 12 / 64.0);
        Check.dueInk("the well", x.ink(2), 2.0);
        x.pass(3);
        Check.dueInk("full again, not more", x.ink(0), 1.0);
        Check.dueInk("the well has only the rest less", x.ink(2), 2 - 52 / 64.0);
    }

    // "if the pen has less ink than the letter that is written next needs"
    private static void aPenWithJustEnough() {
        int[] letters = {'n', 'o', 'p', 'z'};
        int[] next = {0, 0, 2, 2};
        for (int i = 0; i < letters.length; i++) {
            // z and w need 49/64: 15/64 are left, and o needs 15/64.
            TwoScribes x = Check.withPage("zw" + (char) letters[i]);
            x.set(0, 1);
            x.setPace(0, 1);
            x.pass(4);
            Check.dueInk("15/64 are left", x.ink(0), 15 / 64.0);
            Check.due("next(0) of " + (char) letters[i], x.next(0), next[i]);
            x.pass(1);
            Check.due("it is so", x.scribe(0, 1), next[i] == 0 ? 3 : 2);
        }
        TwoScribes x = Check.withPage("zwo");
        x.pass(30);
        Check.dueInk("the pen of 0 is empty", x.ink(0), 0.0);
        Check.dueInk("that of 1 too", x.ink(1), 0.0);
        Check.due("one dip was enough for 0", x.scribe(0, 5), 1);
        Check.due("and for 1", x.scribe(1, 5), 1);
        Check.read(x, "a");
        Check.due("an empty pen has less than an a needs", x.next(0), 2);
    }

    /**
     * Sixteen places, of which eight are due as "a" or "g" or "p", and all are written as "p"; 15
     * ticks have passed: 1 has a tick of dipping left, an empty pen, and 64/64 in the well.
     */
    private static void dipIntoOne(TwoScribes x) {
        Check.read(x, "agpppppp!0p,1p,14p,15p");
        x.set(1, 0);
        x.set(2, 20);
        x.pass(15);
    }

    // "or all that is in the well, if that is less": just as much
    private static void theWellHasJustEnough() {
        TwoScribes x = new TwoScribes();
        dipIntoOne(x);
        Check.dueInk("the well", x.ink(2), 1.0);
        Check.dueInk("the pen", x.ink(1), 0.0);
        Check.due("a tick is left", x.scribe(1, 4), 1);
        x.pass(1);
        Check.dueInk("the pen is full", x.ink(1), 1.0);
        Check.dueInk("the well is empty", x.ink(2), 0.0);
        x.pass(8);
        Check.due("all is written", x.count(2), 16);
        Check.dueInk("nothing is left in the pen of 0", x.ink(0), 0.0);
        Check.dueInk("nor in that of 1", x.ink(1), 0.0);
        Check.dueInk("all was needed", x.ink(3), 4.0);
    }

    // "or all that is in the well, if that is less": 1/64 less; "A pen that has got all that the
    // well had, and not enough for the next letter, waits as told (the well being empty)."
    private static void lessThanIsWanted() {
        TwoScribes x = new TwoScribes();
        dipIntoOne(x);
        x.correct(0);
        Check.dueInk("the well", x.ink(2), 63 / 64.0);
        x.pass(1);
        Check.dueInk("the pen gets all", x.ink(1), 63 / 64.0);
        Check.dueInk("the well is empty", x.ink(2), 0.0);
        Check.due("the dip is over", x.scribe(1, 5), 2);
        x.pass(6);
        Check.dueInk("15/64 are left", x.ink(1), 15 / 64.0);
        Check.due("too little for p: 1 waits for ink", x.next(1), 4);
        int waits = x.scribe(1, 6);
        x.pass(9);
        Check.due("and goes on waiting", x.scribe(1, 6), waits + 9);
        Check.due("with no further dip", x.scribe(1, 5), 2);
        Check.due("a letter is left", x.doneIn(), TwoScribes.NONE);
    }

    // "otherwise 1 less its ink": 1/64 more is in the well
    private static void moreThanIsWanted() {
        TwoScribes x = new TwoScribes();
        dipIntoOne(x);
        x.pour(1);
        x.correct(1);
        Check.dueInk("the well", x.ink(2), 65 / 64.0);
        x.pass(1);
        Check.dueInk("the pen is full, not more", x.ink(1), 1.0);
        Check.dueInk("1/64 stays", x.ink(2), 1 / 64.0);
    }

    private static void aDipIntoAnEmptyWell() {
        TwoScribes x = new TwoScribes();
        dipIntoOne(x);
        for (int place : new int[] {0, 1, 2, 3, 13, 14, 15}) {
            Check.holds("correct(" + place + ")", x.correct(place) >= 0);
        }
        Check.dueInk("the well is empty under the dip", x.ink(2), 0.0);
        Check.due("1 goes on", x.next(1), 1);
        x.pass(1);
        Check.due("the dip is over", x.scribe(1, 5), 2);
        Check.dueInk("the pen got nothing", x.ink(1), 0.0);
        Check.due("1 waits for ink", x.next(1), 4);
    }

    // "if the other one dips, the scribe waits; if the well has no ink, the scribe waits, too"
    private static void theOtherDipsAndTheWellIsEmpty() {
        TwoScribes x = Check.withPage("pppppppppppppppppppp");
        x.pass(99);
        Check.dueInk("all ink is used up", x.ink(0) + x.ink(1) + x.ink(2), 0.0);
        Check.due("0 waits for ink", x.next(0), 4);
        Check.read(x, "hpppp");
        x.set(0, 9);
        x.set(1, 0);
        x.setPace(0, 1);
        x.pour(8);
        x.pass(10);
        Check.dueInk("0 has it all", x.ink(0), 1.0);
        Check.due("1 waits for ink then", x.next(1), 4);
        x.pour(1);
        x.pass(4);
        Check.due("1 dips", x.scribe(1, 4), 6);
        Check.dueInk("8/64 are in the pen of 0", x.ink(0), 0.125);
        Check.due("0 waits for 1", x.next(0), 3);
        Check.due("h is corrected", x.correct(0), 3);
        Check.dueInk("the well is empty", x.ink(2), 0.0);
        Check.due("0 waits for 1 all the same", x.next(0), 3);
        int waits = x.scribe(0, 6);
        x.pass(5);
        Check.due("up to the last tick", x.next(0), 3);
        x.pass(1);
        Check.due("0 has waited", x.scribe(0, 6), waits + 6);
        Check.due("then 0 waits for ink", x.next(0), 4);
        Check.due("as does 1", x.next(1), 4);
    }

    // "if the well has no ink": 1/64 is ink
    private static void aDropInTheWellIsInk() {
        TwoScribes x = new TwoScribes();
        dipIntoOne(x);
        x.correct(0);
        x.pass(8);
        Check.due("1 waits for ink", x.next(1), 4);
        x.pour(1);
        Check.due("1 would dip into 8/64", x.next(1), 2);
        x.correct(1);
        Check.dueInk("a drop", x.ink(2), 1 / 64.0);
        Check.due("1 would dip into 1/64", x.next(1), 2);
        x.pass(3);
        Check.dueInk("which is just enough", x.ink(1), 16 / 64.0);
        Check.dueInk("the well is empty", x.ink(2), 0.0);
        Check.due("1 writes", x.next(1), 0);
        x.pass(2);
        Check.due("all is written", x.count(2), 16);
    }

    // "a blot if the pen had more ink ahead of it than the setting 1 tells": as much is none
    private static void blotsAtTheSetting() {
        for (int eighths = 0; eighths <= 8; eighths++) {
            // The pen has 8/8, 7/8, .. 1/8 ahead of the letters.
            TwoScribes x = Check.withPage("hhhhhhhh");
            if (eighths != 7) {
                x.set(1, eighths);
            }
            x.pass(60);
            for (int p = 0; p < 8; p++) {
                Check.due("place " + p + " by " + eighths, x.place(p, 2), 8 - p > eighths ? 1 : 0);
                Check.due("its mirror", x.place(15 - p, 2), 8 - p > eighths ? 1 : 0);
            }
            Check.due("blots", x.count(3), 2 * (8 - eighths));
        }
    }

    // "more ink": 1/64 more is a blot, 1/64 less is none
    private static void blotsJustAboveTheSetting() {
        for (int eighths = 0; eighths <= 8; eighths++) {
            TwoScribes above = Check.withPage("ghhhhhhh");
            TwoScribes below = Check.withPage("ihhhhhhc");
            if (eighths != 7) {
                above.set(1, eighths);
                below.set(1, eighths);
            }
            above.pass(60);
            below.pass(60);
            for (int p = 1; p < 8; p++) {
                int have = 65 - 8 * p;
                Check.due("above, place " + p, above.place(p, 2), have > 8 * eighths ? 1 : 0);
                have = 63 - 8 * p;
                Check.due("below, place " + p, below.place(p, 2), have > 8 * eighths ? 1 : 0);
            }
        }
    }

    // "In a tick, the scribe 0 and then the scribe 1"
    private static void scribe0GoesFirst() {
        TwoScribes x = Check.withPage("pppppp");
        x.set(0, 1);
        x.pass(1);
        Check.due("0 begins", x.scribe(0, 4), 1);
        Check.due("1 waits in the same tick", x.scribe(1, 6), 1);
        x.pass(1);
        Check.due("0 is through", x.scribe(0, 5), 1);
        Check.due("1 begins in the same tick", x.scribe(1, 4), 1);
        Check.due("and waits no more", x.scribe(1, 6), 1);
        TwoScribes y = Check.withPage("ppppppp");
        y.set(0, 9);
        y.setPace(0, 1);
        y.pass(18);
        Check.due("1 has its last tick of dipping", y.scribe(1, 4), 1);
        Check.due("0 has waited since the tick 15", y.scribe(0, 6), 4);
        y.pass(1);
        Check.due("0 waits in the tick in which 1 ends", y.scribe(0, 6), 5);
        Check.due("1 is through", y.scribe(1, 5), 1);
        y.pass(1);
        Check.due("0 begins in the next", y.scribe(0, 4), 9);
        Check.due("and waits no more", y.scribe(0, 6), 5);
    }

    // "who has nothing more to write on the page rests"
    private static void whoRestsDoesNotWait() {
        TwoScribes x = Check.withPage("p");
        x.pass(99);
        Check.due("0 never waited", x.scribe(0, 6), 0);
        Check.due("1 waited for 0", x.scribe(1, 6), 2);
        double well = x.ink(2);
        x.pass(99);
        Check.due("1 waits no more", x.scribe(1, 6), 2);
        Check.due("0 does not dip again", x.scribe(0, 5), 1);
        Check.dueInk("the well stays", x.ink(2), well);
        Check.due("the tick", x.count(0), 198);
    }

    // pass, "ticks: 1 to 99"
    private static void passArguments() {
        for (int ticks : new int[] {MIN, -99, -1, 0, 100, 101, MAX}) {
            Refusal.refusedAlways("pass(" + ticks + ")", x -> x.pass(ticks), TwoScribes.BAD_VALUE);
        }
        TwoScribes x = new TwoScribes();
        int tick = 0;
        for (int ticks = 1; ticks <= 99; ticks++) {
            tick += ticks;
            Check.due("pass(" + ticks + ")", x.pass(ticks), 0);
            Check.due("the tick", x.count(0), tick);
        }
    }

    // "Returns how many letters are written in them"
    private static void passCountsLetters() {
        int[] due = {0, 0, 0, 0, 1, 0, 2, 0, 1, 0};
        TwoScribes x = Check.withPage("ab");
        for (int tick = 1; tick <= due.length; tick++) {
            Check.due("the tick " + tick, x.pass(1), due[tick - 1]);
        }
        TwoScribes y = Check.withPage("ab");
        Check.due("all at once", y.pass(9), 4);
        Check.due("nothing is left", y.pass(9), 0);
        y.readPage();
        Check.due("only those of now", y.pass(2), 2);
    }

    // "FULL if the tick would be beyond 99999"
    private static void theTickHasAnEnd() {
        // 512 calls do not get there: these objects are used longer than is promised.
        for (int left = 0; left <= 99; left++) {
            TwoScribes x = new TwoScribes();
            for (int tick = 0; tick + 99 <= 99999 - left; tick += 99) {
                x.pass(99);
            }
            if (x.count(0) < 99999 - left) {
                x.pass(99999 - left - x.count(0));
            }
            int states = x.count(12);
            if (left < 99) {
                Check.due("one more than goes", x.pass(left + 1), TwoScribes.FULL);
            }
            Check.due("BAD_VALUE is first", x.pass(100), TwoScribes.BAD_VALUE);
            Check.due("the tick stays", x.count(0), 99999 - left);
            Check.due("nothing is recorded", x.count(12), states);
            if (left > 0) {
                Check.due("all that goes", x.pass(left), 0);
            }
            Check.due("the last tick", x.count(0), 99999);
            Check.due("none is beyond it", x.pass(1), TwoScribes.FULL);
        }
    }

    // "An object is used for at most 512 calls"
    private static void fiveHundredAndTwelveCalls() {
        TwoScribes x = new TwoScribes();
        for (int call = 1; call <= 511; call++) {
            Check.due("the call " + call, x.pass(99), 0);
        }
        Check.due("the call 512", x.count(0), 511 * 99);
    }
}
