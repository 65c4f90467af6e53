import java.util.Arrays;

/**
 * Long runs of calls that are chosen by a fixed rule: whatever they do, what the object tells must
 * agree with itself and with the document.
 */
final class RunsTest {
    private static final String[] TEXTS = {
        "a", "zz", "abz!5q", "hhhhhhhh", "aaaaaaaaaaaaaaaaaaaa!39z,10b", "xyz!0a,0b,1c", "a!2b", "q!",
        "mnopqrstuvwxyzabcdef", "zzzzzzzzzzzzzzzzzzzz", "ppp!1p,4z"
    };

    private static Choice choice;

    public static void main(String[] args) {
        for (int run = 0; run < 60; run++) {
            choice = new Choice(run);
            run(run % 3 == 0);
        }
        Check.finish();
    }

    private static int below(int bound) {
        return choice.below(bound);
    }

    private static void run(boolean withOddArguments) {
        TwoScribes x = new TwoScribes();
        for (int i = 0; i < 300; i++) {
            double[] before = Check.stateOf(x);
            int states = x.count(12);
            int kind = below(withOddArguments ? 16 : 13);
            int answer = call(x, kind);
            double[] after = Check.stateOf(x);
            if (answer < 0) {
                Check.holds("an error or NONE changes nothing", Arrays.equals(before, after));
                Check.due("and is not recorded", x.count(12), states);
            } else if (kind < 12) {
                Check.due("an act is recorded", x.count(12), Math.min(4, states + 1));
                if (below(3) == 0) {
                    Check.due("undo()", x.undo(), Math.min(3, states));
                    Check.holds("an act is undone", Arrays.equals(before, Check.stateOf(x)));
                }
            }
            accountsAddUp(x);
            countsAgree(x);
            if (below(4) == 0) {
                nextIsKept(x);
            }
            if (below(8) == 0) {
                doneInIsKept(x);
                bestPaceIsBest(x);
            }
        }
    }

    private static int call(TwoScribes x, int kind) {
        switch (kind) {
            case 0:
                return Check.read(x, TEXTS[below(TEXTS.length)]);
            case 1:
            case 2:
                return x.misread(below(12), below(27));
            case 3:
            case 4:
                return x.correct(below(12));
            case 5:
                return x.setPace(below(2), 1 + below(9));
            case 6:
                return x.pour(1 + below(12));
            case 7:
                return below(3) == 0 ? x.set(0, 1 + below(9)) : x.set(1 + below(2), below(9));
            case 8:
            case 9:
            case 10:
                return x.pass(1 + below(below(3) == 0 ? 99 : 5));
            case 11:
                return x.restore();
            case 12:
                return x.count(0) % 3 == 0 ? x.keep() : x.undo();
            case 13:
                return x.pass(odd());
            case 14:
                return x.misread(odd(), odd());
            default:
                return x.set(odd(), odd());
        }
    }

    private static int odd() {
        int[] odd = {-1, 0, 100, Integer.MIN_VALUE, Integer.MAX_VALUE, 1 << 31, -5};
        return odd[below(odd.length)];
    }

    private static void accountsAddUp(TwoScribes x) {
        double had = 4.0 + x.count(8) / 8.0;
        double is = x.ink(0) + x.ink(1) + x.ink(2) + x.ink(3) + x.ink(4);
        Check.dueInk("ink poured and ink found", is, had);
        for (int what = 0; what < 3; what++) {
            Check.holds("ink(" + what + ") is in its bounds",
                    x.ink(what) >= 0.0 && (what == 2 || x.ink(what) <= 1.0));
        }
    }

    private static void countsAgree(TwoScribes x) {
        int places = x.count(1);
        int written = 0;
        int blots = 0;
        int notDue = 0;
        int corrected = 0;
        int unlike = 0;
        double needed = 0.0;
        for (int p = 0; p < places; p++) {
            int letter = x.place(p, 1);
            int due = x.place(p, 0);
            int mirror = x.place(p, 5);
            int mirrored = x.place(mirror, 1);
            written += letter != 0 ? 1 : 0;
            blots += x.place(p, 2);
            notDue += letter != 0 && letter != due ? 1 : 0;
            corrected += x.place(p, 3);
            unlike += p < mirror && letter != 0 && mirrored != 0 && letter != mirrored ? 1 : 0;
            int told = x.place(p, 4);
            needed += letter != 0 ? 0.0 : (told != 0 ? told : due) / 64.0;
            Check.due("the mirror mirrors", x.place(mirror, 5), p);
            Check.due("what is due is mirrored", x.place(mirror, 0), due);
        }
        Check.due("written", x.count(2), written);
        Check.due("written by both", x.scribe(0, 1) + x.scribe(1, 1), written);
        Check.due("blots", x.count(3), blots);
        Check.due("not due", x.count(4), notDue);
        Check.due("corrections left", x.count(5), Math.max(0, x.count(11) - corrected));
        Check.due("unlikePairs()", x.unlikePairs(), unlike);
        Check.due("unlikeReadings()", x.unlikeReadings(), unlike);
        Check.dueInk("needed()", x.needed(), needed);
        Check.holds("only one dips", x.scribe(0, 4) == 0 || x.scribe(1, 4) == 0);
    }

    /** Passes one tick, in which each scribe must do what next() told. */
    private static void nextIsKept(TwoScribes x) {
        int[] told = {x.next(0), x.next(1)};
        int[] letters = {x.scribe(0, 1), x.scribe(1, 1)};
        int[] spent = {x.scribe(0, 3), x.scribe(1, 3)};
        int[] left = {x.scribe(0, 4), x.scribe(1, 4)};
        int[] waits = {x.scribe(0, 6), x.scribe(1, 6)};
        double[] pens = {x.ink(0), x.ink(1)};
        int[] next = {x.scribe(0, 2), x.scribe(1, 2)};
        x.pass(1);
        for (int s = 0; s < 2; s++) {
            boolean writes = x.scribe(s, 3) == spent[s] + 1 || x.scribe(s, 1) == letters[s] + 1;
            Check.holds("0 told: a tick is spent", (told[s] == 0) == writes);
            Check.holds("1 told: a dip goes on",
                    (told[s] == 1) == (left[s] > 0 && x.scribe(s, 4) == left[s] - 1));
            Check.holds("2 told: a dip begins",
                    (told[s] == 2) == (left[s] == 0 && x.scribe(s, 4) == x.count(9)));
            Check.due("3 or 4 told: waits", x.scribe(s, 6),
                    waits[s] + (told[s] == 3 || told[s] == 4 ? 1 : 0));
            Check.holds("5 told: nothing is left to write",
                    (told[s] == 5) == (left[s] == 0 && next[s] == TwoScribes.NONE));
            if (x.scribe(s, 1) == letters[s] + 1) {
                Check.due("written in this tick", x.place(next[s], 6), x.count(0));
                Check.due("a blot", x.place(next[s], 2), pens[s] > x.count(10) / 8.0 ? 1 : 0);
                Check.dueInk("the pen", x.ink(s), pens[s] - x.place(next[s], 1) / 64.0);
            }
        }
    }

    private static void doneInIsKept(TwoScribes x) {
        int due = x.doneIn();
        x.keep();
        int passed = 0;
        while (passed < 2000 && x.count(2) < x.count(1)) {
            x.pass(1);
            passed++;
        }
        int found = x.count(2) < x.count(1) ? TwoScribes.NONE : passed;
        x.restore();
        Check.due("doneIn()", due, found);
    }

    private static void bestPaceIsBest(TwoScribes x) {
        for (int s = 0; s < 2; s++) {
            int told = x.bestPace(s);
            int own = x.scribe(s, 0);
            int best = TwoScribes.NONE;
            int fewest = Integer.MAX_VALUE;
            for (int pace = 1; pace <= 9; pace++) {
                x.setPace(s, pace);
                int ticks = x.doneIn();
                if (ticks > 0 && ticks <= fewest) {
                    best = pace;
                    fewest = ticks;
                }
            }
            x.setPace(s, own);
            Check.due("bestPace(" + s + ")", told, best);
        }
    }
}
