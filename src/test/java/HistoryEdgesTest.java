import java.util.Arrays;

/** The edges of the history and of the snapshot (promises 11 to 13), by sentences. */
final class HistoryEdgesTest {
    public static void main(String[] args) {
        theEmptyHistory();
        noSnapshotAtFirst();
        oneToFiveStates();
        theOldestIsDropped();
        theHistoryGoesRound();
        actsThatAnswerZero();
        onlyActsAreRecorded();
        whatIsRefusedIsNotRecorded();
        undoBringsAllBack();
        undoBringsTheUnwrittenPageBack();
        undoIsNoAct();
        theSnapshotIsReplaced();
        theSnapshotOfANewObject();
        theSnapshotStays();
        theSnapshotIsNoPartOfTheState();
        restoreIsAnAct();
        keepAnswersTheTick();
        Check.finish();
    }

    // undo, "NONE if the history is empty"
    private static void theEmptyHistory() {
        Refusal.refused("undo() at first", Refusal.FRESH, x -> x.undo(), TwoScribes.NONE);
        Refusal.refused("undo() behind the last one", x -> {
            Refusal.BUSY.on(x);
            for (int i = 0; i < 4; i++) {
                x.undo();
            }
        }, x -> x.undo(), TwoScribes.NONE);
        Refusal.refused("undo() with a text and a snapshot alone", x -> {
            Check.typeText(x, "abc");
            x.keep();
        }, x -> x.undo(), TwoScribes.NONE);
    }

    // "one snapshot, empty at first"; restore, "NONE if there is no snapshot"
    private static void noSnapshotAtFirst() {
        Refusal.refused("restore() at first", Refusal.FRESH, x -> x.restore(), TwoScribes.NONE);
        Refusal.refused("restore() without a snapshot", x -> {
            Check.read(x, "abc!5z");
            x.pass(8);
            x.correct(5);
            x.pour(3);
        }, x -> x.restore(), TwoScribes.NONE);
    }

    // "A history of at most 4 states is kept"; undo, "Returns the number of states that are left"
    private static void oneToFiveStates() {
        for (int acts = 0; acts <= 9; acts++) {
            TwoScribes x = new TwoScribes();
            for (int i = 1; i <= acts; i++) {
                x.pour(i);
                Check.due("states behind " + i, x.count(12), Math.min(i, 4));
            }
            int kept = Math.min(acts, 4);
            int poured = acts * (acts + 1) / 2;
            for (int i = 0; i < kept; i++) {
                poured -= acts - i;
                Check.due("undo() of " + acts, x.undo(), kept - 1 - i);
                Check.due("poured then", x.count(8), poured);
                Check.dueInk("the well then", x.ink(2), 4 + poured / 8.0);
                Check.due("count(12)", x.count(12), kept - 1 - i);
            }
            Check.due("one more", x.undo(), TwoScribes.NONE);
            Check.due("changes nothing", x.count(8), poured);
        }
    }

    // "when one more is recorded, the oldest one is dropped"
    private static void theOldestIsDropped() {
        TwoScribes x = new TwoScribes();
        x.setPace(0, 3);
        x.setPace(0, 4);
        x.setPace(0, 5);
        x.setPace(0, 6);
        Check.due("four", x.count(12), 4);
        x.setPace(0, 7);
        Check.due("still four", x.count(12), 4);
        for (int pace = 6; pace >= 3; pace--) {
            x.undo();
            Check.due("the pace", x.scribe(0, 0), pace);
        }
        Check.due("the pace of 2 is dropped", x.undo(), TwoScribes.NONE);
        Check.due("the pace stays 3", x.scribe(0, 0), 3);
    }

    /** All mixtures of twelve acts and undos, against a row of what was. */
    private static void theHistoryGoesRound() {
        for (int mixture = 0; mixture < 1 << 12; mixture++) {
            TwoScribes x = new TwoScribes();
            int[] was = new int[16];
            int size = 0;
            int oldest = 0;
            int poured = 0;
            for (int i = 0; i < 12; i++) {
                if ((mixture >> i & 1) == 0) {
                    was[size++] = poured;
                    oldest = Math.max(oldest, size - 4);
                    poured += i + 1;
                    Check.due("pour()", x.pour(i + 1), poured);
                } else if (size > oldest) {
                    poured = was[--size];
                    Check.due("undo()", x.undo(), size - oldest);
                } else {
                    Check.due("undo() of none", x.undo(), TwoScribes.NONE);
                }
                Check.due("poured in the mixture " + mixture, x.count(8), poured);
                Check.due("states in the mixture " + mixture, x.count(12), size - oldest);
            }
        }
    }

    // "Each call of a method that is described as an act, and returns no error and not NONE,
    // records": also one that returns 0
    private static void actsThatAnswerZero() {
        TwoScribes x = new TwoScribes();
        Check.due("pass(1) writes nothing", x.pass(1), 0);
        Check.due("it is recorded", x.count(12), 1);
        x.undo();
        x.keep();
        Check.due("restore() to the tick 0", x.restore(), 0);
        Check.due("it is recorded", x.count(12), 1);
        x.undo();
        x.set(1, 0);
        Check.due("the setting was 0", x.set(1, 8), 0);
        Check.due("it is recorded", x.count(12), 2);
        Check.due("undo()", x.undo(), 1);
        Check.due("the setting is 0 again", x.count(10), 0);
        TwoScribes y = Check.withPage("a");
        y.set(2, 1);
        y.pass(5);
        Check.due("states", y.count(12), 3);
        Check.due("the last correction", y.correct(0), 0);
        Check.due("it is recorded", y.count(12), 4);
        Check.due("undo()", y.undo(), 3);
        Check.due("there is a blot again", y.place(0, 2), 1);
        Check.due("and a correction left", y.count(5), 1);
    }

    private static void onlyActsAreRecorded() {
        TwoScribes x = new TwoScribes();
        x.pass(7);
        x.type('a');
        x.clearText();
        x.type('b');
        x.keep();
        x.place(0, 0);
        x.scribe(0, 0);
        x.ink(0);
        x.next(0);
        x.next(1);
        x.doneIn();
        x.unlikePairs();
        x.unlikeReadings();
        x.needed();
        x.bestPace(0);
        x.bestPace(1);
        x.count(0);
        Check.due("one act", x.count(12), 1);
        Check.due("undo()", x.undo(), 0);
        Check.due("the tick", x.count(0), 0);
        Check.due("undo() is none", x.undo(), TwoScribes.NONE);
        Check.due("an act on an empty history", x.pour(1), 1);
        Check.due("is the only one", x.count(12), 1);
        Check.due("readPage() is the second", x.readPage(), 2);
        Check.due("states", x.count(12), 2);
    }

    private static void whatIsRefusedIsNotRecorded() {
        TwoScribes x = Check.withPage("ab");
        x.clearText();
        Refusal.Call[] refused = {
            y -> y.readPage(), y -> y.misread(4, 1), y -> y.misread(0, 27), y -> y.misread(0, 0),
            y -> y.correct(4), y -> y.correct(0), y -> y.setPace(2, 1), y -> y.setPace(0, 10),
            y -> y.setPace(0, 2), y -> y.pour(0), y -> y.pour(81), y -> y.set(3, 1),
            y -> y.set(1, 9), y -> y.set(1, 7), y -> y.pass(0), y -> y.pass(100), y -> y.restore()
        };
        for (Refusal.Call call : refused) {
            Check.holds("it is refused", call.on(x) < 0);
            Check.due("and not recorded", x.count(12), 1);
        }
        Check.due("undo() takes the page back", x.undo(), 0);
        Check.due("no page", x.count(1), 0);
    }

    private static final Refusal.Call[] ACTS = {
        x -> x.readPage(),
        x -> x.misread(3, 26),
        x -> x.correct(1),
        x -> x.setPace(0, 9),
        x -> x.setPace(1, 1),
        x -> x.pour(80),
        x -> x.set(0, 9),
        x -> x.set(1, 0),
        x -> x.set(2, 20),
        x -> x.pass(1),
        x -> x.pass(99),
        x -> x.restore()
    };

    /** Everything that an act changes is as before behind undo(), and behind restore(). */
    private static void undoBringsAllBack() {
        for (int i = 0; i < ACTS.length; i++) {
            TwoScribes before = new TwoScribes();
            Refusal.BUSY.on(before);
            TwoScribes changed = new TwoScribes();
            Refusal.BUSY.on(changed);
            Check.holds("the act " + i + " is done", ACTS[i].on(changed) >= 0);
            double[] told = Check.stateOf(before);
            Check.holds("the act " + i + " is seen", !Arrays.equals(told, Check.stateOf(changed)));
            TwoScribes undone = new TwoScribes();
            Refusal.BUSY.on(undone);
            ACTS[i].on(undone);
            Check.due("undo() of the act " + i, undone.undo(), 3);
            Check.holds("the act " + i + " is undone", Arrays.equals(told, Check.stateOf(undone)));
            TwoScribes restored = new TwoScribes();
            Refusal.BUSY.on(restored);
            restored.keep();
            ACTS[i].on(restored);
            Check.due("restore() behind the act " + i, restored.restore(), 8);
            Check.holds("the act " + i + " is gone", Arrays.equals(told, Check.stateOf(restored)));
        }
    }

    private static void undoBringsTheUnwrittenPageBack() {
        TwoScribes x = new TwoScribes();
        Check.read(x, "a");
        x.undo();
        Check.due("no page", x.count(1), 0);
        Check.due("no pages so far", x.count(6), 0);
        Check.due("no place 0", x.place(0, 0), TwoScribes.UNKNOWN);
        Check.due("both rest", x.next(0) + x.next(1), 10);
        Check.read(x, "abcdefghijklmnopqrst!39z");
        Check.read(x, "q");
        x.undo();
        Check.due("the great page again", x.count(1), 40);
        Check.due("its first letter", x.place(0, 0), 1);
        Check.due("its last misreading", x.place(39, 4), 26);
    }

    private static void undoIsNoAct() {
        TwoScribes x = new TwoScribes();
        x.pour(1);
        x.pour(2);
        x.undo();
        Check.due("undo() is not recorded", x.count(12), 1);
        x.undo();
        Check.due("undo() goes back, not forth", x.count(8), 0);
        Check.due("and there it ends", x.undo(), TwoScribes.NONE);
    }

    // keep, "in place of the one that was"
    private static void theSnapshotIsReplaced() {
        TwoScribes x = new TwoScribes();
        x.pass(3);
        Check.due("keep()", x.keep(), 3);
        x.pass(4);
        Check.due("keep() again", x.keep(), 7);
        x.pass(5);
        Check.due("restore()", x.restore(), 7);
        Check.due("restore() again", x.restore(), 7);
        Check.due("the tick", x.count(0), 7);
    }

    private static void theSnapshotOfANewObject() {
        TwoScribes x = new TwoScribes();
        Check.due("keep() at first", x.keep(), 0);
        Check.read(x, "abc!5z");
        x.set(0, 9);
        x.setPace(0, 9);
        x.pour(80);
        x.pass(99);
        Check.due("restore()", x.restore(), 0);
        Check.holds("all is as at first",
                Arrays.equals(Check.stateOf(new TwoScribes()), Check.stateOf(x)));
        Check.due("but for the history", x.count(12), 4);
        Check.due("and the text", x.count(13), 6);
        x.undo();
        Check.due("the tick is back", x.count(0), 99);
        Check.due("the page too", x.count(1), 6);
    }

    // restore, "Restores the state of the snapshot, which stays."
    private static void theSnapshotStays() {
        TwoScribes kept = new TwoScribes();
        Refusal.BUSY.on(kept);
        double[] told = Check.stateOf(kept);
        for (int times = 1; times <= 3; times++) {
            TwoScribes x = new TwoScribes();
            Refusal.BUSY.on(x);
            x.keep();
            for (int i = 0; i < times; i++) {
                x.pass(30);
                x.correct(3);
                x.pour(7);
                x.set(0, 9);
                x.readPage();
                Check.due("restore()", x.restore(), 8);
            }
            Check.holds("as it was kept, " + times, Arrays.equals(told, Check.stateOf(x)));
        }
    }

    private static void theSnapshotIsNoPartOfTheState() {
        TwoScribes x = new TwoScribes();
        x.pass(5);
        x.keep();
        x.pass(5);
        x.undo();
        x.undo();
        Check.due("the tick is undone", x.count(0), 0);
        Check.due("the snapshot is not", x.restore(), 5);
        x.pass(4);
        x.keep();
        x.undo();
        x.undo();
        Check.due("the tick", x.count(0), 0);
        Check.due("the newer one stays", x.restore(), 9);
    }

    private static void restoreIsAnAct() {
        TwoScribes x = new TwoScribes();
        x.pass(5);
        x.keep();
        for (int i = 1; i <= 6; i++) {
            x.restore();
            Check.due("states", x.count(12), Math.min(4, 1 + i));
        }
        for (int i = 3; i >= 0; i--) {
            Check.due("undo()", x.undo(), i);
            Check.due("the tick of then", x.count(0), 5);
        }
        Check.due("no state is left", x.undo(), TwoScribes.NONE);
        x.pass(2);
        x.restore();
        Check.due("restored", x.count(0), 5);
        Check.due("undo() of it", x.undo(), 1);
        Check.due("the tick ahead of it", x.count(0), 7);
    }

    // keep, "Returns the tick."
    private static void keepAnswersTheTick() {
        TwoScribes x = new TwoScribes();
        Check.due("0", x.keep(), 0);
        x.pass(1);
        Check.due("1", x.keep(), 1);
        x.pass(99);
        Check.due("100", x.keep(), 100);
        x.undo();
        Check.due("1 again", x.keep(), 1);
        Check.due("keep() is no act", x.count(12), 1);
    }
}
