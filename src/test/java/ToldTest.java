/** Promises 14 to 23: what is told. */
final class ToldTest {
    public static void main(String[] args) {
        tellsPlaces();
        tellsScribes();
        tellsInk();
        tellsWhatComesNext();
        tellsTheNextOfScribe1BehindScribe0();
        tellsWhenThePageIsDone();
        tellsThatItIsNotDoneIn2000();
        tellsUnlikePairs();
        tellsInkThatIsNeeded();
        findsTheBestPace();
        theGreatestOfTheBest();
        noBestPace();
        counts();
        Check.finish();
    }

    private static void row(String name, int[] got, int[] want) {
        for (int i = 0; i < want.length; i++) {
            Check.due(name + " [" + i + "]", got[i], want[i]);
        }
    }

    private static int[] placeRow(TwoScribes x, int place) {
        int[] told = new int[7];
        for (int what = 0; what < 7; what++) {
            told[what] = x.place(place, what);
        }
        return told;
    }

    private static int[] scribeRow(TwoScribes x, int scribe) {
        int[] told = new int[7];
        for (int what = 0; what < 7; what++) {
            told[what] = x.scribe(scribe, what);
        }
        return told;
    }

    private static void tellsPlaces() {
        TwoScribes x = Check.withPage("xyz!5q");
        int none = TwoScribes.NONE;
        row("place 0", placeRow(x, 0), new int[] {24, 0, 0, 0, 0, 5, none});
        row("place 2", placeRow(x, 2), new int[] {26, 0, 0, 0, 0, 3, none});
        row("place 3", placeRow(x, 3), new int[] {26, 0, 0, 0, 0, 2, none});
        row("place 5", placeRow(x, 5), new int[] {24, 0, 0, 0, 17, 0, none});
        x.pass(40);
        row("place 0 then", placeRow(x, 0), new int[] {24, 24, 1, 0, 0, 5, 5});
        row("place 5 then", placeRow(x, 5), new int[] {24, 17, 1, 0, 17, 0, 7});
        row("place 1 then", placeRow(x, 1), new int[] {25, 25, 0, 0, 0, 4, 7});
        x.correct(5);
        row("place 5 corrected", placeRow(x, 5), new int[] {24, 24, 0, 1, 17, 0, 7});
        Check.due("place(6, 0)", x.place(6, 0), TwoScribes.UNKNOWN);
        Check.due("place(-1, 7)", x.place(-1, 7), TwoScribes.UNKNOWN);
        Check.due("place(MAX, 0)", x.place(Integer.MAX_VALUE, 0), TwoScribes.UNKNOWN);
        Check.due("place(MIN, 0)", x.place(Integer.MIN_VALUE, 0), TwoScribes.UNKNOWN);
        Check.due("place(0, 7)", x.place(0, 7), TwoScribes.BAD_VALUE);
        Check.due("place(0, -1)", x.place(0, -1), TwoScribes.BAD_VALUE);
    }

    private static void tellsScribes() {
        TwoScribes x = Check.withPage("ab");
        x.setPace(1, 3);
        row("scribe 0", scribeRow(x, 0), new int[] {2, 0, 0, 0, 0, 0, 0});
        row("scribe 1", scribeRow(x, 1), new int[] {3, 0, 3, 0, 0, 0, 0});
        x.pass(2);
        row("scribe 0 dips", scribeRow(x, 0), new int[] {2, 0, 0, 0, 1, 0, 0});
        row("scribe 1 waits", scribeRow(x, 1), new int[] {3, 0, 3, 0, 0, 0, 2});
        x.pass(4);
        row("scribe 0 writes", scribeRow(x, 0), new int[] {2, 1, 1, 1, 0, 1, 0});
        row("scribe 1 has begun", scribeRow(x, 1), new int[] {3, 0, 3, 1, 0, 1, 2});
        x.pass(90);
        int none = TwoScribes.NONE;
        row("scribe 0 rests", scribeRow(x, 0), new int[] {2, 2, none, 0, 0, 1, 0});
        row("scribe 1 rests", scribeRow(x, 1), new int[] {3, 2, none, 0, 0, 1, 2});
        Check.due("scribe(2, 0)", x.scribe(2, 0), TwoScribes.UNKNOWN);
        Check.due("scribe(-1, 9)", x.scribe(-1, 9), TwoScribes.UNKNOWN);
        Check.due("scribe(0, 7)", x.scribe(0, 7), TwoScribes.BAD_VALUE);
        Check.due("scribe(1, -1)", x.scribe(1, -1), TwoScribes.BAD_VALUE);
    }

    private static void tellsInk() {
        TwoScribes x = Check.withPage("pq!2b");
        x.pass(5);
        Check.dueInk("ink(0)", x.ink(0), 0.75);
        Check.dueInk("ink(1)", x.ink(1), 1.0);
        Check.dueInk("ink(2)", x.ink(2), 2.0);
        Check.dueInk("ink(3)", x.ink(3), 0.25);
        x.correct(0);
        Check.dueInk("ink(2) then", x.ink(2), 1.75);
        Check.dueInk("ink(4)", x.ink(4), 0.25);
        Check.dueInk("ink(3) as it was", x.ink(3), 0.25);
        x.pass(50);
        Check.dueInk("ink(3) of all", x.ink(3), (16 + 17 + 16 + 2) / 64.0);
        Check.dueInk("ink(1) at the end", x.ink(1), 1 - 18 / 64.0);
        Check.read(x, "a");
        Check.dueInk("ink(4) is of all pages", x.ink(4), 0.25);
        Check.dueInk("ink(3) too", x.ink(3), 51 / 64.0);
        Check.dueInk("ink(5)", x.ink(5), -1.0);
        Check.dueInk("ink(-1)", x.ink(-1), -1.0);
        Check.dueInk("ink(MAX)", x.ink(Integer.MAX_VALUE), -1.0);
    }

    private static void tellsWhatComesNext() {
        TwoScribes x = Check.withPage("z");
        Check.due("s0 begins to dip", x.next(0), 2);
        Check.due("next(2)", x.next(2), TwoScribes.UNKNOWN);
        Check.due("next(-1)", x.next(-1), TwoScribes.UNKNOWN);
        x.pass(1);
        Check.due("s0 dips", x.next(0), 1);
        Check.due("s1 waits for s0", x.next(1), 3);
        x.pass(2);
        Check.due("s0 writes", x.next(0), 0);
        Check.due("s1 dips", x.next(1), 1);
        x.pass(30);
        Check.due("s0 rests", x.next(0), 5);
        Check.due("s1 rests", x.next(1), 5);

        TwoScribes y = Check.withPage("zzzzzzz");
        y.pass(99);
        Check.due("s0 waits for ink", y.next(0), 4);
        Check.due("s1 waits for ink", y.next(1), 4);
        Check.due("asking is no act", y.count(12), 2);
        y.pour(1);
        Check.due("s0 would dip", y.next(0), 2);
        Check.due("s1 would wait for s0", y.next(1), 3);
        Check.read(y, "a");
        Check.due("s0 has enough for an a", y.next(0), 0);
        Check.due("s1 too", y.next(1), 0);
    }

    private static void tellsTheNextOfScribe1BehindScribe0() {
        TwoScribes x = Check.withPage("z");
        Check.due("s0 begins, so s1 waits", x.next(1), 3);
        x.pass(2);
        Check.due("s0 dips for the last time", x.next(0), 1);
        Check.due("so s1 begins", x.next(1), 2);

        TwoScribes y = Check.withPage("pppppppp");
        y.set(1, 0);
        y.set(2, 20);
        // Eight letters are written with four dips' ink at hand; corrections drain the rest.
        y.pass(3);
        Check.dueInk("the well", y.ink(2), 3.0);
        y.pass(2);
        for (int i = 0; i < 12 && y.ink(2) > 0.0; i++) {
            y.correct(0);
            y.pass(1);
            for (int p = 0; p < 16; p++) {
                y.correct(p);
            }
        }
        Check.dueInk("the well is drained", y.ink(2), 0.0);
        y.pass(99);
        Check.due("s0 waits for ink", y.next(0), 4);
        Check.due("and so does s1", y.next(1), 4);

        TwoScribes z = Check.withPage("z");
        for (int i = 0; i < 2; i++) {
            z.pass(99);
            Check.read(z, "zzzzz");
        }
        z.pass(99);
        Check.dueInk("the well is empty", z.ink(2), 0.0);
        z.pour(1);
        z.pass(2);
        Check.due("s0 takes all with its last tick", z.next(0), 1);
        Check.due("so s1 waits for ink", z.next(1), 4);
    }

    private static void tellsWhenThePageIsDone() {
        TwoScribes x = new TwoScribes();
        Check.due("no page", x.doneIn(), 0);
        Check.read(x, "ab");
        Check.due("doneIn()", x.doneIn(), 9);
        Check.due("asking is no act", x.count(12), 1);
        Check.due("and lets no tick pass", x.count(0), 0);
        x.pass(8);
        Check.due("doneIn() then", x.doneIn(), 1);
        Check.due("not all is written", x.count(2), 3);
        x.pass(1);
        Check.due("doneIn() at the end", x.doneIn(), 0);
        Check.due("all is written", x.count(2), 4);
        Check.read(x, "ab");
        Check.due("with ink in the pens", x.doneIn(), 4);
        x.setPace(0, 9);
        Check.due("the slower one tells", x.doneIn(), 18);
    }

    private static void tellsThatItIsNotDoneIn2000() {
        TwoScribes x = Check.withPage("zzzzz");
        Check.due("4 are too little for 260/64", x.doneIn(), TwoScribes.NONE);
        x.pour(80);
        Check.holds("but not with 10 more", x.doneIn() > 0);
        // The slowest page: 40 letters of 9 ticks, each dip of 9 ticks; far below 2000.
        TwoScribes y = Check.withPage("zzzzzzzzzzzzzzzzzzzz");
        y.pour(80);
        y.pour(80);
        y.setPace(0, 9);
        y.setPace(1, 9);
        y.set(0, 9);
        int due = y.doneIn();
        Check.holds("the slowest page is done: " + due, due > 180 && due < 2000);
        int passed = 0;
        while (passed + 99 < due) {
            y.pass(99);
            passed += 99;
        }
        y.pass(due - passed - 1);
        Check.due("one letter or two are left", y.doneIn(), 1);
        y.pass(1);
        Check.due("done as told", y.count(2), 40);
    }

    private static void tellsUnlikePairs() {
        TwoScribes x = Check.withPage("abcd!0z,5q,3d");
        unlike(x, 0);
        x.pass(6);
        Check.due("only s0 has written", x.count(2), 1);
        unlike(x, 0);
        x.pass(1);
        Check.due("place 7 is written", x.place(7, 1), 1);
        unlike(x, 1);
        x.pass(40);
        Check.due("all is written", x.count(2), 8);
        unlike(x, 2);
        x.correct(0);
        unlike(x, 1);
        x.correct(5);
        unlike(x, 0);

        TwoScribes y = Check.withPage("abc!1z,4z,0q,5r");
        y.pass(60);
        Check.due("two that are misread alike are like", y.count(4), 4);
        unlike(y, 1);
        y.correct(1);
        unlike(y, 2);
    }

    private static void unlike(TwoScribes x, int pairs) {
        Check.due("unlikePairs()", x.unlikePairs(), pairs);
        Check.due("unlikeReadings()", x.unlikeReadings(), pairs);
    }

    private static void tellsInkThatIsNeeded() {
        TwoScribes x = Check.withPage("ab!3z");
        Check.dueInk("needed()", x.needed(), (1 + 2 + 2 + 26) / 64.0);
        x.misread(1, 10);
        Check.dueInk("needed() then", x.needed(), (1 + 10 + 2 + 26) / 64.0);
        x.pass(4);
        Check.dueInk("what is begun is not written", x.needed(), (1 + 10 + 2 + 26) / 64.0);
        x.pass(1);
        Check.dueInk("one is written", x.needed(), (10 + 2 + 26) / 64.0);
        x.pass(2);
        Check.dueInk("two more", x.needed(), 2 / 64.0);
        x.pass(2);
        Check.dueInk("all", x.needed(), 0.0);
        Check.read(x, "zzzzzzzzzzzzzzzzzzzz");
        Check.dueInk("40 times 26", x.needed(), 40 * 26 / 64.0);
    }

    private static void findsTheBestPace() {
        TwoScribes x = Check.withPage("aaaaa");
        // s0 begins to write in the tick 4, s1 in the tick 6 and is done behind 15.
        Check.due("doneIn()", x.doneIn(), 15);
        Check.due("s0 has time for 12 ticks: 2 each", x.bestPace(0), 2);
        Check.due("s1 could be done behind 13, as s0", x.bestPace(1), 1);
        x.setPace(1, 9);
        Check.due("s1 is done behind 50: 9 each for s0", x.bestPace(0), 9);
        Check.due("asking is no act", x.count(12), 2);
        Check.due("and sets no pace", x.scribe(0, 0), 2);
        Check.due("bestPace(2)", x.bestPace(2), TwoScribes.UNKNOWN);
        Check.due("bestPace(-1)", x.bestPace(-1), TwoScribes.UNKNOWN);
    }

    private static void theGreatestOfTheBest() {
        TwoScribes x = Check.withPage("a");
        x.pass(5);
        Check.due("s0 is through", x.scribe(0, 1), 1);
        Check.due("any pace will do: the greatest", x.bestPace(0), 9);
        Check.due("s1", x.bestPace(1), 1);
        x.setPace(1, 9);
        x.pass(3);
        Check.due("three ticks are spent", x.scribe(1, 3), 3);
        Check.due("one tick more with 1 to 4", x.bestPace(1), 4);
    }

    private static void noBestPace() {
        TwoScribes x = new TwoScribes();
        Check.due("no page", x.bestPace(0), TwoScribes.NONE);
        Check.due("no page, UNKNOWN is first", x.bestPace(2), TwoScribes.UNKNOWN);
        Check.read(x, "a");
        // s1 is done behind 7; s0 begins to write in the tick 4.
        Check.due("s0", x.bestPace(0), 4);
        x.pass(30);
        Check.due("the page is done", x.bestPace(0), TwoScribes.NONE);
        Check.due("the page is done, s1", x.bestPace(1), TwoScribes.NONE);
        Check.read(x, "zzzzzzzzzz");
        Check.due("too little ink", x.bestPace(0), TwoScribes.NONE);
        Check.due("too little ink, s1", x.bestPace(1), TwoScribes.NONE);
    }

    private static void counts() {
        TwoScribes x = Check.withPage("abc!1b,5c");
        x.set(0, 1);
        x.set(1, 3);
        x.set(2, 9);
        x.pour(13);
        x.pass(30);
        x.correct(5);
        int[] want = {30, 6, 6, 5, 0, 8, 1, 6, 13, 1, 3, 9, 4, 9};
        for (int what = 0; what < want.length; what++) {
            Check.due("count(" + what + ")", x.count(what), want[what]);
        }
        x.undo();
        Check.due("blots", x.count(3), 6);
        Check.due("not due", x.count(4), 1);
        Check.due("states", x.count(12), 3);
        Check.due("count(14)", x.count(14), TwoScribes.BAD_VALUE);
        Check.due("count(-1)", x.count(-1), TwoScribes.BAD_VALUE);
        Check.due("count(MAX)", x.count(Integer.MAX_VALUE), TwoScribes.BAD_VALUE);
        Check.due("count(MIN)", x.count(Integer.MIN_VALUE), TwoScribes.BAD_VALUE);
        Check.read(x, "z");
        Check.due("pages", x.count(6), 2);
        Check.due("letters of all pages", x.count(7), 6);
        Check.due("written on this one", x.count(2), 0);
        x.pass(20);
        Check.due("letters of all pages then", x.count(7), 8);
        Check.due("written on this one then", x.count(2), 2);
    }
}
