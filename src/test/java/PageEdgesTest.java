/** The edges of the page, of misreadings and of corrections (promises 1 to 4), by sentences. */
final class PageEdgesTest {
    private static final int MIN = Integer.MIN_VALUE;
    private static final int MAX = Integer.MAX_VALUE;

    public static void main(String[] args) {
        atFirstThereIsNoPage();
        theLeastPage();
        theGreatestPage();
        everyPageBetween();
        theHalvesEndInTheMiddle();
        aNewPageLeavesNothingOfTheOld();
        ticksOfALetterAreLost();
        whoDipsGoesOnDipping();
        readPageIsRefused();
        misreadPlaces();
        misreadLetters();
        misreadUntilTheFirstTick();
        misreadAgainAsTheTickIsLost();
        misreadNone();
        misreadOrderOfChecks();
        correctPlaces();
        correctWhatIsWritten();
        asOftenAsTheSettingTells();
        noneIsLeftWithTheSettingLowered();
        theWellHasJustEnough();
        inkOfTheLetterThatIsDue();
        correctNone();
        correctOrderOfChecks();
        Check.finish();
    }

    // "at first there is no page"
    private static void atFirstThereIsNoPage() {
        TwoScribes x = new TwoScribes();
        Check.due("no places", x.count(1), 0);
        Check.due("no next letter of 0", x.scribe(0, 2), TwoScribes.NONE);
        Check.due("no next letter of 1", x.scribe(1, 2), TwoScribes.NONE);
        for (int what = -1; what <= 7; what++) {
            Check.due("place(0, what)", x.place(0, what), TwoScribes.UNKNOWN);
        }
        Refusal.refused("misread(0, 1) without a page", Refusal.FRESH, y -> y.misread(0, 1), -1);
        Refusal.refused("misread(0, 0) without a page", Refusal.FRESH, y -> y.misread(0, 0), -1);
        Refusal.refused("correct(0) without a page", Refusal.FRESH, y -> y.correct(0), -1);
        Check.due("ticks pass all the same", x.pass(99), 0);
        Check.due("the tick", x.count(0), 99);
        Check.dueInk("nobody dips", x.ink(2), 4.0);
    }

    // "A page has a left half of 1 to 20 letters": 1
    private static void theLeastPage() {
        TwoScribes x = Check.withPage("q");
        Check.due("places", x.count(1), 2);
        Check.due("due at 0", x.place(0, 0), 17);
        Check.due("due at 1", x.place(1, 0), 17);
        Check.due("0 mirrors 1", x.place(0, 5), 1);
        Check.due("1 mirrors 0", x.place(1, 5), 0);
        Check.due("no place 2", x.place(2, 0), TwoScribes.UNKNOWN);
        Check.due("0 begins at the left", x.scribe(0, 2), 0);
        Check.due("1 begins at the right", x.scribe(1, 2), 1);
        Check.due("pass(4)", x.pass(4), 0);
        Check.due("pass(1)", x.pass(1), 1);
        Check.due("0 is through", x.scribe(0, 2), TwoScribes.NONE);
        Check.due("1 is not", x.scribe(1, 2), 1);
        Check.due("pass(2)", x.pass(2), 1);
        Check.due("1 is through", x.scribe(1, 2), TwoScribes.NONE);
        Check.due("both places are written", x.count(2), 2);
    }

    // "A page has a left half of 1 to 20 letters": 20; "of n places, the place p mirrors n - 1 - p"
    private static void theGreatestPage() {
        TwoScribes x = Check.withPage("abcdefghijklmnopqrst");
        Check.due("places", x.count(1), 40);
        for (int p = 0; p < 40; p++) {
            Check.due("mirror of " + p, x.place(p, 5), 39 - p);
            Check.due("due at " + p, x.place(p, 0), p < 20 ? p + 1 : 40 - p);
        }
        Check.due("no place 40", x.place(40, 0), TwoScribes.UNKNOWN);
        x.pour(80);
        Check.due("pass(99)", x.pass(99), 40);
        Check.due("0 is through", x.scribe(0, 2), TwoScribes.NONE);
        Check.due("1 is through", x.scribe(1, 2), TwoScribes.NONE);
        for (int p = 1; p < 20; p++) {
            Check.holds("0 goes rightward: " + p, x.place(p, 6) > x.place(p - 1, 6));
            Check.holds("1 goes leftward: " + p, x.place(39 - p, 6) > x.place(40 - p, 6));
        }
        for (int p = 0; p < 40; p++) {
            Check.due("written at " + p, x.place(p, 1), x.place(p, 0));
        }
    }

    private static void everyPageBetween() {
        for (int half = 1; half <= 20; half++) {
            String text = "abcdefghijklmnopqrst".substring(0, half);
            TwoScribes x = new TwoScribes();
            int n = 2 * half;
            Check.due("readPage() of " + text, Check.read(x, text), n);
            Check.due("places", x.count(1), n);
            Check.due("the last one mirrors 0", x.place(n - 1, 5), 0);
            Check.due("the last of the left half", x.place(half - 1, 5), half);
            Check.due("due there", x.place(half - 1, 0), half);
            Check.due("due behind it", x.place(half, 0), half);
            Check.due("due at the end", x.place(n - 1, 0), 1);
            Check.due("no place n", x.place(n, 0), TwoScribes.UNKNOWN);
            Check.due("1 begins at n - 1", x.scribe(1, 2), n - 1);
        }
    }

    // "The scribe 0 writes the left half, .. the scribe 1 the right half"
    private static void theHalvesEndInTheMiddle() {
        TwoScribes x = Check.withPage("abc");
        x.setPace(1, 9);
        x.pass(9);
        Check.due("0 has written its half", x.scribe(0, 1), 3);
        Check.due("and goes no farther", x.scribe(0, 2), TwoScribes.NONE);
        x.pass(30);
        Check.due("the right half is 1's", x.count(2), 6);
        Check.due("3 is written last", x.place(3, 6), 32);
        Check.due("0 wrote three", x.scribe(0, 1), 3);
        Check.due("1 wrote three", x.scribe(1, 1), 3);
        Check.due("1 goes no farther", x.scribe(1, 2), TwoScribes.NONE);
    }

    // "in place of the one that was: nothing of it is written"
    private static void aNewPageLeavesNothingOfTheOld() {
        TwoScribes x = Check.withPage("aaaaaaaaaaaaaaaaaaaa!0z,19z,20z,39z");
        x.set(1, 0);
        x.pass(99);
        x.correct(0);
        x.correct(39);
        Check.due("all are written", x.count(2), 40);
        Check.due("a page between", Check.read(x, "b"), 2);
        Check.due("the great one again", Check.read(x, "aaaaaaaaaaaaaaaaaaaa"), 40);
        for (int p = 0; p < 40; p++) {
            Check.due("written at " + p, x.place(p, 1), 0);
            Check.due("blot at " + p, x.place(p, 2), 0);
            Check.due("corrected at " + p, x.place(p, 3), 0);
            Check.due("misreading at " + p, x.place(p, 4), 0);
            Check.due("tick of " + p, x.place(p, 6), TwoScribes.NONE);
        }
        Check.due("blots", x.count(3), 0);
        Check.due("not due", x.count(4), 0);
        Check.due("corrections left", x.count(5), 4);
        Check.due("letters of 0", x.scribe(0, 1), 0);
        Check.due("letters of 1", x.scribe(1, 1), 0);
    }

    // "ticks that were spent on a letter are lost; pens and the well stay"
    private static void ticksOfALetterAreLost() {
        TwoScribes x = Check.withPage("ab");
        x.setPace(0, 9);
        x.setPace(1, 9);
        x.pass(11);
        Check.due("8 of 9 are spent", x.scribe(0, 3), 8);
        Check.due("6 of 9 are spent", x.scribe(1, 3), 6);
        Check.due("readPage()", x.readPage(), 4);
        Check.due("those of 0 are lost", x.scribe(0, 3), 0);
        Check.due("those of 1 are lost", x.scribe(1, 3), 0);
        Check.dueInk("the pen of 0 stays", x.ink(0), 1.0);
        Check.dueInk("the pen of 1 stays", x.ink(1), 1.0);
        Check.dueInk("the well stays", x.ink(2), 2.0);
        Check.due("pass(8)", x.pass(8), 0);
        Check.due("pass(1)", x.pass(1), 2);
    }

    // "scribes who dip go on dipping"
    private static void whoDipsGoesOnDipping() {
        TwoScribes x = Check.withPage("ab");
        x.pass(1);
        Check.due("0 has just begun", x.scribe(0, 4), 2);
        x.readPage();
        Check.due("it goes on", x.scribe(0, 4), 2);
        Check.due("next(0)", x.next(0), 1);
        x.pass(3);
        Check.due("1 has its last tick", x.scribe(1, 4), 1);
        x.readPage();
        Check.due("next(1)", x.next(1), 1);
        x.pass(1);
        Check.dueInk("the pen of 1", x.ink(1), 1.0);
        Check.due("a dip is over", x.scribe(1, 5), 1);
    }

    // "-100 minus the fault of the text if it has one ..; UNKNOWN if it has a misreading for a
    // place that it has not"
    private static void readPageIsRefused() {
        refusedText("", -100);
        refusedText("A", -100);
        refusedText("a!", -102);
        refusedText("a!2", -103);
        refusedText("a!2b", TwoScribes.UNKNOWN);
        refusedText("a!2b,0c", TwoScribes.UNKNOWN);
        refusedText("a!0c,39b", TwoScribes.UNKNOWN);
        refusedText("a!2b,0c,", -108);
        refusedText("zzzzzzzzzzzzzzzzzzz!38b", TwoScribes.UNKNOWN);
        refusedText("zzzzzzzzzzzzzzzzzzzzz", -120);
        for (int half = 1; half < 20; half++) {
            String letters = "zzzzzzzzzzzzzzzzzzzz".substring(0, half);
            TwoScribes x = new TwoScribes();
            Check.due("the last place", Check.read(x, letters + "!" + (2 * half - 1) + "b"), 2 * half);
            Check.due("its misreading", x.place(2 * half - 1, 4), 2);
            Check.due("the one behind it", Check.read(x, letters + "!" + 2 * half + "b"), -1);
        }
    }

    private static void refusedText(String text, int want) {
        Refusal.refused("readPage() of " + text + " at first",
                x -> Check.typeText(x, text), x -> x.readPage(), want);
        Refusal.refused("readPage() of " + text + " in the midst", x -> {
            Refusal.BUSY.on(x);
            Check.typeText(x, text);
        }, x -> x.readPage(), want);
    }

    // misread, "place: a place of the page"
    private static void misreadPlaces() {
        for (int place : new int[] {MIN, -40, -1, 6, 7, 39, 40, MAX}) {
            Refusal.refused("misread(" + place + ", 1)", Refusal.BUSY, x -> x.misread(place, 1), -1);
        }
        String[] texts = {"a", "abc", "abcdefghijklmnopqrst"};
        for (String text : texts) {
            TwoScribes x = Check.withPage(text);
            int n = 2 * text.length();
            for (int p = 0; p < n; p++) {
                Check.due("misread(" + p + ", 26)", x.misread(p, 26), Math.min(p, n - 1 - p) + 1);
                Check.due("place(" + p + ", 4)", x.place(p, 4), 26);
            }
            Check.due("misread(n, 26)", x.misread(n, 26), TwoScribes.UNKNOWN);
        }
    }

    // misread, "letter: 1 to 26; 0 if there is none"
    private static void misreadLetters() {
        for (int letter : new int[] {MIN, -26, -1, 27, 28, MAX}) {
            Refusal.refused("misread(3, " + letter + ")", Refusal.BUSY,
                    x -> x.misread(3, letter), TwoScribes.BAD_VALUE);
        }
        TwoScribes x = Check.withPage("m");
        int previous = 13;
        for (int letter = 1; letter <= 26; letter++) {
            Check.due("misread(1, " + letter + ")", x.misread(1, letter), previous);
            Check.due("place(1, 4)", x.place(1, 4), letter);
            previous = letter;
        }
        Check.due("misread(1, 0)", x.misread(1, 0), 26);
        Check.due("none is told", x.place(1, 4), 0);
        Check.due("the letter that is due", x.misread(1, 1), 13);
        Check.due("place 0 has none", x.place(0, 4), 0);
    }

    // "For each place a misreading can be told, as long as no tick was spent on it: the scribe
    // writes that letter there instead."
    private static void misreadUntilTheFirstTick() {
        for (int pace = 2; pace <= 9; pace++) {
            int ticks = pace;
            TwoScribes x = Check.withPage("ab");
            x.setPace(0, pace);
            x.setPace(1, pace);
            x.pass(3);
            Check.due("0 begins in the next tick", x.next(0), 0);
            Check.due("misread(0, 3)", x.misread(0, 3), 1);
            x.pass(1);
            Check.due("its first tick", x.scribe(0, 3), 1);
            Check.due("misread(0, 4)", x.misread(0, 4), TwoScribes.NOT_POSSIBLE);
            Refusal.refused("a tick is spent by 0", y -> spendTicks(y, ticks, 4),
                    y -> y.misread(0, 4), TwoScribes.NOT_POSSIBLE);
            Refusal.refused("all but one are spent by 0", y -> spendTicks(y, ticks, 2 + ticks),
                    y -> y.misread(0, 4), TwoScribes.NOT_POSSIBLE);
            Refusal.refused("it is written by 0", y -> spendTicks(y, ticks, 3 + ticks),
                    y -> y.misread(0, 4), TwoScribes.NOT_POSSIBLE);
            Refusal.refused("a tick is spent by 1", y -> spendTicks(y, ticks, 6),
                    y -> y.misread(3, 4), TwoScribes.NOT_POSSIBLE);
            Refusal.refused("it is written by 1", y -> spendTicks(y, ticks, 5 + ticks),
                    y -> y.misread(3, 4), TwoScribes.NOT_POSSIBLE);
            x.pass(1);
            Check.due("1 begins in the next tick", x.next(1), 0);
            Check.due("misread(3, 5)", x.misread(3, 5), 1);
            x.pass(40);
            Check.due("0 wrote that letter", x.place(0, 1), 3);
            Check.due("1 wrote that letter", x.place(3, 1), 5);
        }
        TwoScribes x = Check.withPage("ab");
        x.setPace(0, 1);
        x.pass(3);
        Check.due("pace 1: not begun", x.misread(0, 3), 1);
        x.pass(1);
        Check.due("pace 1: written at once", x.misread(0, 4), TwoScribes.NOT_POSSIBLE);
        Check.due("the next one is not begun", x.misread(1, 4), 2);
    }

    private static void spendTicks(TwoScribes x, int pace, int ticks) {
        Check.read(x, "ab");
        x.setPace(0, pace);
        x.setPace(1, pace);
        x.pass(ticks);
    }

    private static void misreadAgainAsTheTickIsLost() {
        TwoScribes x = Check.withPage("ab");
        x.pass(3);
        x.pass(3);
        Check.due("0 has written", x.misread(0, 4), TwoScribes.NOT_POSSIBLE);
        Check.due("1 has begun", x.misread(3, 4), TwoScribes.NOT_POSSIBLE);
        x.undo();
        Check.due("undone, it is not", x.misread(0, 4), 1);
        Check.due("nor is that of 1", x.misread(3, 4), 1);
        x.pass(1);
        Check.due("0 has begun", x.misread(0, 5), TwoScribes.NOT_POSSIBLE);
        x.readPage();
        Check.due("a new page is not begun", x.misread(0, 5), 1);
    }

    // "NONE if it is told so already (0 if there is none; also the letter that is due can be told)"
    private static void misreadNone() {
        Refusal.refused("none is told, misread(3, 0)", Refusal.BUSY, x -> x.misread(3, 0), -5);
        Refusal.Setup told = x -> Check.read(x, "ab!2b,3z");
        Refusal.refused("z is told", told, x -> x.misread(3, 26), TwoScribes.NONE);
        Refusal.refused("what is due is told", told, x -> x.misread(2, 2), TwoScribes.NONE);
        TwoScribes x = Check.withPage("ab");
        Check.due("what is due can be told", x.misread(3, 1), 1);
        Check.due("it is told then", x.place(3, 4), 1);
        Check.due("an act", x.count(12), 2);
        Check.due("told so already", x.misread(3, 1), TwoScribes.NONE);
        Check.due("no more", x.misread(3, 0), 1);
        Check.due("none is told then", x.place(3, 4), 0);
        Check.due("there is none already", x.misread(3, 0), TwoScribes.NONE);
    }

    private static void misreadOrderOfChecks() {
        Refusal.refusedAlways("misread(6, 27)", x -> x.misread(6, 27), TwoScribes.UNKNOWN);
        Refusal.refusedAlways("misread(-1, -1)", x -> x.misread(-1, -1), TwoScribes.UNKNOWN);
        Refusal.refusedAlways("misread(MIN, MAX)", x -> x.misread(MIN, MAX), TwoScribes.UNKNOWN);
        Refusal.refused("BAD_VALUE ahead of NOT_POSSIBLE", Refusal.BUSY, x -> x.misread(0, 27), -2);
        Refusal.refused("and of a begun one", Refusal.BUSY, x -> x.misread(2, -1), -2);
        Refusal.refused("NOT_POSSIBLE ahead of NONE", Refusal.BUSY, x -> x.misread(0, 0), -4);
        Refusal.refused("also with one told", Refusal.BUSY, x -> x.misread(5, 26), -4);
        Refusal.refused("also of a begun one", Refusal.BUSY, x -> x.misread(4, 25), -4);
    }

    // correct, "place: a place of the page"
    private static void correctPlaces() {
        for (int place : new int[] {MIN, -40, -1, 6, 7, 39, 40, MAX}) {
            Refusal.refusedAlways("correct(" + place + ")", x -> x.correct(place), -1);
        }
        TwoScribes x = Check.withPage("aaaaaaaaaaaaaaaaaaaa");
        x.set(1, 0);
        x.pass(99);
        Check.due("the first place", x.correct(0), 3);
        Check.due("the last place", x.correct(39), 2);
        Check.due("the last of the left half", x.correct(19), 1);
        Check.due("the first of the right half", x.correct(20), 0);
    }

    // "A place that is written can be corrected"; "NOT_POSSIBLE if it is not written"
    private static void correctWhatIsWritten() {
        Refusal.refused("untouched", Refusal.BUSY, x -> x.correct(3), TwoScribes.NOT_POSSIBLE);
        Refusal.refused("begun by 0", Refusal.BUSY, x -> x.correct(2), TwoScribes.NOT_POSSIBLE);
        Refusal.refused("begun by 1", Refusal.BUSY, x -> x.correct(4), TwoScribes.NOT_POSSIBLE);
        TwoScribes x = Check.withPage("ab");
        x.pass(4);
        Check.due("all but a tick of it", x.correct(0), TwoScribes.NOT_POSSIBLE);
        x.pass(1);
        Check.due("with the last one", x.correct(0), 3);
        x.pass(1);
        Check.due("1: all but a tick of it", x.correct(3), TwoScribes.NOT_POSSIBLE);
        x.pass(1);
        Check.due("1: with the last one", x.correct(3), 2);
    }

    // "as often as the setting 2 tells on a page (0 to 20; 4 at first)"
    private static void asOftenAsTheSettingTells() {
        for (int often = 0; often <= 20; often++) {
            TwoScribes x = blots(often);
            Check.due("at first", x.count(5), often);
            for (int i = 0; i < often; i++) {
                Check.due("correct(" + i + ") of " + often, x.correct(i), often - 1 - i);
                Check.due("count(5)", x.count(5), often - 1 - i);
            }
            Check.due("one more than " + often, x.correct(often), TwoScribes.NOT_POSSIBLE);
            Check.due("none is left", x.count(5), 0);
            Check.due("the others are blots", x.count(3), 40 - often);
            x.readPage();
            Check.due("on a new page", x.count(5), often);
        }
        Refusal.refused("none at all", y -> readBlots(y, 0), y -> y.correct(0), -4);
        Refusal.refused("the 21st", y -> {
            readBlots(y, 20);
            for (int i = 0; i < 20; i++) {
                y.correct(i);
            }
        }, y -> y.correct(20), TwoScribes.NOT_POSSIBLE);
    }

    private static TwoScribes blots(int often) {
        TwoScribes x = new TwoScribes();
        readBlots(x, often);
        return x;
    }

    /** Forty blots of "a". */
    private static void readBlots(TwoScribes x, int often) {
        Check.read(x, "aaaaaaaaaaaaaaaaaaaa");
        x.set(1, 0);
        x.set(2, often);
        x.pass(99);
    }

    // count, "5 for corrections that are left on it (0 at least)"
    private static void noneIsLeftWithTheSettingLowered() {
        TwoScribes x = blots(4);
        x.correct(0);
        x.correct(1);
        x.set(2, 3);
        Check.due("two of three", x.count(5), 1);
        x.set(2, 2);
        Check.due("two of two", x.count(5), 0);
        Check.due("no third one", x.correct(2), TwoScribes.NOT_POSSIBLE);
        x.set(2, 1);
        Check.due("two of one: 0 at least", x.count(5), 0);
        Check.due("no third one then", x.correct(2), TwoScribes.NOT_POSSIBLE);
        x.set(2, 0);
        Check.due("two of none: 0 at least", x.count(5), 0);
        x.set(2, 3);
        Check.due("the third one", x.correct(2), 0);
        x.set(2, 20);
        Check.due("three of twenty", x.count(5), 17);
    }

    /** "h" and "i" are written, as blots, and the well is empty. */
    private static void emptyTheWell(TwoScribes x) {
        Check.read(x, "hizzzzz");
        x.set(1, 0);
        x.pass(99);
    }

    // "NOT_POSSIBLE if .. the well has too little ink"
    private static void theWellHasJustEnough() {
        TwoScribes x = new TwoScribes();
        emptyTheWell(x);
        Check.dueInk("the well is empty", x.ink(2), 0.0);
        Refusal.refused("of an empty well", y -> emptyTheWell(y), y -> y.correct(0), -4);
        Refusal.refused("1/64 is missing", y -> {
            emptyTheWell(y);
            y.pour(1);
        }, y -> y.correct(1), TwoScribes.NOT_POSSIBLE);
        x.pour(1);
        Check.due("8/64 are just enough for h", x.correct(0), 3);
        Check.dueInk("nothing is left", x.ink(2), 0.0);
        Check.dueInk("ink of corrections", x.ink(4), 0.125);
        x.pour(2);
        Check.due("16/64 are enough for i", x.correct(1), 2);
        Check.dueInk("7/64 are left", x.ink(2), 7 / 64.0);
        Check.dueInk("ink of corrections then", x.ink(4), 17 / 64.0);
    }

    // "the letter that is due is there then, and no blot. That needs ink from the well as told for
    // the letter."
    private static void inkOfTheLetterThatIsDue() {
        TwoScribes x = Check.withPage("az!0z,2a");
        x.pass(30);
        Check.due("all is written", x.count(2), 4);
        double well = x.ink(2);
        Check.due("z is corrected to a", x.correct(0), 3);
        Check.dueInk("1/64 is needed", x.ink(2), well - 1 / 64.0);
        Check.due("a is corrected to z", x.correct(2), 2);
        Check.dueInk("26/64 are needed", x.ink(2), well - 27 / 64.0);
        Check.dueInk("ink of corrections", x.ink(4), 27 / 64.0);
        Check.due("place(0, 1)", x.place(0, 1), 1);
        Check.due("place(0, 2)", x.place(0, 2), 0);
        Check.due("place(0, 3)", x.place(0, 3), 1);
        Check.due("place(2, 1)", x.place(2, 1), 26);

        TwoScribes y = Check.withPage("zzzzzzz!0h");
        y.pass(99);
        Check.dueInk("the well is empty", y.ink(2), 0.0);
        y.pour(3);
        Check.due("24/64: too little for z, if not for h", y.correct(0), TwoScribes.NOT_POSSIBLE);
        y.pour(1);
        Check.due("32/64", y.correct(0), 3);
        Check.dueInk("6/64 are left", y.ink(2), 6 / 64.0);
    }

    // "NONE if the letter is the one that is due, and no blot"
    private static void correctNone() {
        Refusal.Setup written = x -> {
            Check.read(x, "hha!3h,4z,0h");
            x.pass(40);
        };
        TwoScribes x = new TwoScribes();
        written.on(x);
        Check.due("0 is a blot", x.place(0, 2), 1);
        Check.due("1 is none", x.place(1, 2), 0);
        Check.due("3 is misread", x.place(3, 1), 8);
        Check.due("3 is no blot", x.place(3, 2), 0);
        Refusal.refused("neither blot nor misread", written, y -> y.correct(1), TwoScribes.NONE);
        Refusal.refused("corrected already", y -> {
            written.on(y);
            y.correct(0);
        }, y -> y.correct(0), TwoScribes.NONE);
        Check.due("a blot, read as it is due", x.correct(0), 3);
        Check.due("misread, and no blot", x.correct(3), 2);
        Check.due("misread, the other one", x.correct(4), 1);
        Check.due("it is due then", x.place(4, 1), 8);
        Refusal.refused("a misreading of the letter that is due", y -> {
            Check.read(y, "hh!1h");
            y.pass(40);
        }, y -> y.correct(1), TwoScribes.NONE);
    }

    private static void correctOrderOfChecks() {
        Refusal.refused("UNKNOWN ahead of NOT_POSSIBLE", x -> {
            Check.read(x, "a");
            x.set(2, 0);
        }, x -> x.correct(2), TwoScribes.UNKNOWN);
        Refusal.refused("no correction is left, ahead of NONE", x -> {
            Check.read(x, "aa");
            x.set(1, 8);
            x.set(2, 0);
            x.pass(30);
        }, x -> x.correct(0), TwoScribes.NOT_POSSIBLE);
        Refusal.refused("too little ink, ahead of NONE", x -> {
            Check.read(x, "hizzzzz");
            x.set(1, 8);
            x.pass(99);
            x.pour(1);
        }, x -> x.correct(1), TwoScribes.NOT_POSSIBLE);
        Refusal.refused("ink enough: NONE", x -> {
            Check.read(x, "hizzzzz");
            x.set(1, 8);
            x.pass(99);
            x.pour(1);
        }, x -> x.correct(0), TwoScribes.NONE);
    }
}
