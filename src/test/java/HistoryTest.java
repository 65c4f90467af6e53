import java.util.Arrays;

/** Promises 11 to 13: undo, keep, restore. */
final class HistoryTest {
    public static void main(String[] args) {
        undoes();
        dropsTheOldest();
        everyActIsUndone();
        keeps();
        theSnapshotStays();
        waitingAndDippingAreState();
        Check.finish();
    }

    private static void undoes() {
        TwoScribes x = new TwoScribes();
        Check.due("undo() of none", x.undo(), TwoScribes.NONE);
        x.pour(1);
        x.pour(2);
        Check.due("undo()", x.undo(), 1);
        Check.due("count(8)", x.count(8), 1);
        Check.due("count(12)", x.count(12), 1);
        Check.due("undo() of the last", x.undo(), 0);
        Check.due("count(8) at first", x.count(8), 0);
        Check.due("undo() is no act", x.undo(), TwoScribes.NONE);
    }

    private static void dropsTheOldest() {
        TwoScribes x = new TwoScribes();
        for (int i = 1; i <= 11; i++) {
            x.pour(1);
            Check.due("states", x.count(12), Math.min(i, 4));
        }
        Check.due("undo() 1", x.undo(), 3);
        Check.due("undo() 2", x.undo(), 2);
        Check.due("poured then", x.count(8), 9);
        x.pour(10);
        Check.due("undo() 3", x.undo(), 2);
        Check.due("poured as before", x.count(8), 9);
        Check.due("undo() 4", x.undo(), 1);
        Check.due("undo() 5", x.undo(), 0);
        Check.due("the fifth latest is dropped", x.undo(), TwoScribes.NONE);
        Check.due("poured by then", x.count(8), 7);
    }

    private static void everyActIsUndone() {
        TwoScribes x = Check.withPage("abc!5z,4y");
        x.pass(5);
        x.keep();
        x.pass(2);
        Check.typeText(x, "qq!0b");
        for (int act = 0; act < 8; act++) {
            double[] before = Check.stateOf(x);
            int answer = doAct(x, act);
            Check.holds("act " + act + " is done: " + answer, answer >= 0);
            Check.holds("act " + act + " changes something", !Arrays.equals(before, Check.stateOf(x)));
            Check.due("act " + act + ": undo()", x.undo(), 3);
            Check.holds("act " + act + " is undone", Arrays.equals(before, Check.stateOf(x)));
            x.pour(1);
            x.pour(1);
        }
    }

    private static int doAct(TwoScribes x, int act) {
        switch (act) {
            case 0:
                return x.readPage();
            case 1:
                return x.misread(3, 8);
            case 2:
                return x.correct(0);
            case 3:
                return x.setPace(1, 7);
            case 4:
                return x.pour(5);
            case 5:
                return x.set(1, 3);
            case 6:
                return x.pass(30);
            default:
                return x.restore();
        }
    }

    private static void keeps() {
        TwoScribes x = new TwoScribes();
        Check.due("restore() without one", x.restore(), TwoScribes.NONE);
        Check.due("NONE is not recorded", x.count(12), 0);
        Check.due("keep() at first", x.keep(), 0);
        Check.due("no act", x.count(12), 0);
        x.pass(7);
        Check.due("restore()", x.restore(), 0);
        Check.due("it is an act", x.count(12), 2);
        Check.due("count(0)", x.count(0), 0);
        Check.due("undo()", x.undo(), 1);
        Check.due("the tick before", x.count(0), 7);
        Check.due("keep() then", x.keep(), 7);
        x.pass(3);
        Check.due("restore() the newer one", x.restore(), 7);
    }

    private static void theSnapshotStays() {
        TwoScribes x = Check.withPage("ab!0z,1y,2x,3w");
        x.pass(13);
        x.setPace(0, 4);
        x.correct(0);
        double[] kept = Check.stateOf(x);
        x.keep();
        Check.read(x, "qqq");
        x.pass(50);
        x.set(0, 5);
        x.pour(9);
        x.setPace(1, 9);
        Check.due("restore()", x.restore(), 13);
        Check.holds("all of the state is restored", Arrays.equals(kept, Check.stateOf(x)));
        x.correct(1);
        x.pass(1);
        Check.due("restore() again", x.restore(), 13);
        Check.holds("the snapshot was not changed", Arrays.equals(kept, Check.stateOf(x)));
        Check.due("the history is not restored", x.count(12), 4);
        x.undo();
        x.undo();
        x.undo();
        x.undo();
        Check.due("undo() leaves the snapshot", x.restore(), 13);
        Check.holds("as it was", Arrays.equals(kept, Check.stateOf(x)));
    }

    private static void waitingAndDippingAreState() {
        TwoScribes x = Check.withPage("zz");
        x.set(0, 5);
        x.pass(2);
        x.keep();
        double[] kept = Check.stateOf(x);
        x.pass(9);
        Check.due("s1 has waited", x.scribe(1, 6), 5);
        Check.due("undo()", x.undo(), 3);
        Check.due("the waiting is undone", x.scribe(1, 6), 2);
        Check.due("s0 dips again", x.scribe(0, 4), 4);
        Check.due("no dip is over", x.scribe(0, 5), 0);
        x.pass(9);
        x.restore();
        Check.holds("all of it is restored", Arrays.equals(kept, Check.stateOf(x)));
        x.pass(4);
        Check.due("and goes on as before", x.scribe(0, 5), 1);
    }
}
