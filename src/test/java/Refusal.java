import java.util.Arrays;

/**
 * What the tests of refused calls share: of two objects that were made alike, one gets the refused
 * call; whatever is asked of both behind it, they must answer alike.
 */
final class Refusal {
    interface Setup {
        void on(TwoScribes x);
    }

    interface Call {
        int on(TwoScribes x);
    }

    /** A new object: no page, nothing in the history, no snapshot, no text. */
    static final Setup FRESH = x -> { };

    /**
     * A page of six places (0, 1 and 5 are written, 0 is corrected; 2 and 4 are begun; 3 is
     * untouched), a full history, a snapshot, and a text that is another page.
     */
    static final Setup BUSY = x -> {
        Check.read(x, "abc!5z,4y");
        x.pass(5);
        x.keep();
        x.pass(2);
        x.correct(0);
        x.setPace(1, 3);
        x.pass(1);
        Check.typeText(x, "qq!0b");
    };

    // What is not told outright shows behind these: the text, the history, the snapshot.
    private static final Call[] LATER = {
        x -> 0,
        x -> x.readPage(),
        x -> x.undo(),
        x -> x.undo() * 10 + x.undo(),
        x -> x.undo() * 100 + x.undo() * 10 + x.undo(),
        x -> x.undo() * 1000 + x.undo() * 100 + x.undo() * 10 + x.undo(),
        x -> x.restore(),
        x -> x.pass(9),
        x -> x.pour(1)
    };

    private Refusal() {
    }

    /** The call must answer the error (or NONE) that is due, and must leave no trace. */
    static void refused(String name, Setup setup, Call call, int want) {
        for (int i = 0; i < LATER.length; i++) {
            TwoScribes asked = new TwoScribes();
            setup.on(asked);
            Check.due(name, call.on(asked), want);
            TwoScribes twin = new TwoScribes();
            setup.on(twin);
            Check.due(name + ", and then the call " + i, LATER[i].on(asked), LATER[i].on(twin));
            Check.holds(name + " leaves all as it was (call " + i + ")",
                    Arrays.equals(allOf(asked), allOf(twin)));
        }
    }

    /** Refused alike by a new object and by one in the midst of its work. */
    static void refusedAlways(String name, Call call, int want) {
        refused(name + " at first", FRESH, call, want);
        refused(name + " in the midst", BUSY, call, want);
    }

    /** All that an object tells. */
    static double[] allOf(TwoScribes x) {
        double[] state = Check.stateOf(x);
        double[] all = Arrays.copyOf(state, state.length + 2);
        all[state.length] = x.count(12);
        all[state.length + 1] = x.count(13);
        return all;
    }
}
