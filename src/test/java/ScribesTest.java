/** Promises 5 to 8: setPace, pour, set, pass. */
final class ScribesTest {
    public static void main(String[] args) {
        setsPaces();
        paceOfALetterThatIsBegun();
        pours();
        poursUntilFull();
        sets();
        dipsTakeTheirTicks();
        blotsByTheSetting();
        passes();
        oneDipsAtATime();
        aScribeWhoDipsGoesAheadOfOneWhoWaits();
        theWellRunsEmpty();
        aSmallPenIsNotEnough();
        correctionsDrainTheWellUnderADip();
        theTickHasAnEnd();
        Check.finish();
    }

    private static void setsPaces() {
        TwoScribes x = new TwoScribes();
        Check.due("setPace(0, 9)", x.setPace(0, 9), 2);
        Check.due("setPace(1, 1)", x.setPace(1, 1), 2);
        Check.due("setPace(0, 3)", x.setPace(0, 3), 9);
        Check.due("scribe(0, 0)", x.scribe(0, 0), 3);
        Check.due("scribe(1, 0)", x.scribe(1, 0), 1);
        Check.due("they are acts", x.count(12), 3);
        Check.due("setPace(0, 3) again", x.setPace(0, 3), TwoScribes.NONE);
        Check.due("setPace(2, 1)", x.setPace(2, 1), TwoScribes.UNKNOWN);
        Check.due("setPace(-1, 1)", x.setPace(-1, 1), TwoScribes.UNKNOWN);
        Check.due("setPace(2, 0)", x.setPace(2, 0), TwoScribes.UNKNOWN);
        Check.due("setPace(0, 0)", x.setPace(0, 0), TwoScribes.BAD_VALUE);
        Check.due("setPace(1, 10)", x.setPace(1, 10), TwoScribes.BAD_VALUE);
        Check.due("setPace(1, MIN)", x.setPace(1, Integer.MIN_VALUE), TwoScribes.BAD_VALUE);
        Check.due("errors are not recorded", x.count(12), 3);
        Check.due("and change nothing", x.scribe(1, 0), 1);
    }

    private static void paceOfALetterThatIsBegun() {
        TwoScribes x = Check.withPage("abc");
        x.setPace(0, 5);
        x.pass(6);
        Check.due("three ticks are spent", x.scribe(0, 3), 3);
        x.setPace(0, 1);
        Check.due("they stay", x.scribe(0, 3), 3);
        Check.due("at least one tick more", x.count(2), 0);
        x.pass(1);
        Check.due("which is enough", x.scribe(0, 1), 1);
        Check.due("none is left over", x.scribe(0, 3), 0);
        x.pass(1);
        Check.due("the next takes the new pace", x.scribe(0, 1), 2);

        TwoScribes y = Check.withPage("abc");
        y.pass(4);
        y.setPace(0, 4);
        y.pass(2);
        Check.due("a letter that is begun takes the longer one", y.scribe(0, 1), 0);
        y.pass(1);
        Check.due("four in all", y.scribe(0, 1), 1);

        TwoScribes z = Check.withPage("abc");
        z.setPace(0, 4);
        z.pass(5);
        z.setPace(0, 2);
        z.pass(1);
        Check.due("spent as many as the new pace: one more", z.scribe(0, 1), 1);
    }

    private static void pours() {
        TwoScribes x = new TwoScribes();
        Check.due("pour(1)", x.pour(1), 1);
        Check.dueInk("the well", x.ink(2), 4.125);
        Check.due("pour(80)", x.pour(80), 81);
        Check.dueInk("the well then", x.ink(2), 14.125);
        Check.due("they are acts", x.count(12), 2);
        Check.due("pour(0)", x.pour(0), TwoScribes.BAD_VALUE);
        Check.due("pour(81)", x.pour(81), TwoScribes.BAD_VALUE);
        Check.due("pour(-1)", x.pour(-1), TwoScribes.BAD_VALUE);
        Check.due("pour(MAX)", x.pour(Integer.MAX_VALUE), TwoScribes.BAD_VALUE);
        Check.due("errors are not recorded", x.count(12), 2);
        Check.due("count(8)", x.count(8), 81);
    }

    private static void poursUntilFull() {
        TwoScribes x = new TwoScribes();
        for (int i = 1; i <= 124; i++) {
            Check.due("pour(80)", x.pour(80), 80 * i);
        }
        Check.due("9920 + 80", x.pour(80), TwoScribes.FULL);
        Check.due("9920 + 81", x.pour(81), TwoScribes.BAD_VALUE);
        Check.due("9920 + 79", x.pour(79), 9999);
        Check.due("9999 + 1", x.pour(1), TwoScribes.FULL);
        Check.dueInk("the well", x.ink(2), 4 + 9999 / 8.0);
        x.undo();
        Check.due("9920 + 1", x.pour(1), 9921);
    }

    private static void sets() {
        TwoScribes x = new TwoScribes();
        Check.due("set(0, 9)", x.set(0, 9), 2);
        Check.due("set(0, 1)", x.set(0, 1), 9);
        Check.due("set(1, 0)", x.set(1, 0), 7);
        Check.due("set(1, 8)", x.set(1, 8), 0);
        Check.due("set(2, 20)", x.set(2, 20), 4);
        Check.due("set(2, 0)", x.set(2, 0), 20);
        Check.due("set(2, 0) again", x.set(2, 0), TwoScribes.NONE);
        Check.due("set(0, 0)", x.set(0, 0), TwoScribes.BAD_VALUE);
        Check.due("set(0, 10)", x.set(0, 10), TwoScribes.BAD_VALUE);
        Check.due("set(1, -1)", x.set(1, -1), TwoScribes.BAD_VALUE);
        Check.due("set(1, 9)", x.set(1, 9), TwoScribes.BAD_VALUE);
        Check.due("set(2, -1)", x.set(2, -1), TwoScribes.BAD_VALUE);
        Check.due("set(2, 21)", x.set(2, 21), TwoScribes.BAD_VALUE);
        Check.due("set(3, 1)", x.set(3, 1), TwoScribes.UNKNOWN);
        Check.due("set(-1, 1)", x.set(-1, 1), TwoScribes.UNKNOWN);
        Check.due("set(MAX, MAX)", x.set(Integer.MAX_VALUE, Integer.MAX_VALUE), -1);
        Check.due("count(9)", x.count(9), 1);
        Check.due("count(10)", x.count(10), 8);
        Check.due("count(11)", x.count(11), 0);
        Check.due("undo of an act", x.undo(), 3);
        Check.due("count(11) then", x.count(11), 20);
    }

    private static void dipsTakeTheirTicks() {
        TwoScribes x = Check.withPage("a");
        x.set(0, 1);
        x.pass(1);
        Check.due("the beginning is not counted", x.scribe(0, 4), 1);
        x.set(0, 9);
        Check.due("a dip that is begun stays", x.scribe(0, 4), 1);
        x.pass(1);
        Check.due("it is over", x.scribe(0, 5), 1);
        Check.dueInk("the pen is full", x.ink(0), 1.0);
        Check.due("s1 begins, with the new setting", x.scribe(1, 4), 9);
        Check.due("s1 has waited once", x.scribe(1, 6), 1);
        x.pass(8);
        Check.due("s1 dips", x.scribe(1, 4), 1);
        Check.dueInk("and has no ink yet", x.ink(1), 0.0);
        x.pass(1);
        Check.dueInk("and now all", x.ink(1), 1.0);
        Check.due("not dipping", x.scribe(1, 4), 0);
        Check.due("a dip is over", x.scribe(1, 5), 1);
    }

    private static void blotsByTheSetting() {
        TwoScribes x = Check.withPage("hhhh");
        x.pass(60);
        Check.due("1.0 is more than 7/8", x.place(0, 2), 1);
        Check.due("7/8 is not more than 7/8", x.place(1, 2), 0);
        TwoScribes y = Check.withPage("hhhh");
        y.set(1, 6);
        y.pass(60);
        Check.due("7/8 is more than 6/8", y.place(1, 2), 1);
        Check.due("6/8 is not", y.place(2, 2), 0);
        TwoScribes z = Check.withPage("hhhh");
        z.set(1, 8);
        z.pass(60);
        Check.due("no pen has more than 8/8", z.count(3), 0);
        TwoScribes w = Check.withPage("hhhh");
        w.set(1, 0);
        w.pass(60);
        Check.due("every pen has more than 0/8", w.count(3), 8);
    }

    private static void passes() {
        TwoScribes x = Check.withPage("ab");
        Check.due("pass(0)", x.pass(0), TwoScribes.BAD_VALUE);
        Check.due("pass(100)", x.pass(100), TwoScribes.BAD_VALUE);
        Check.due("pass(-1)", x.pass(-1), TwoScribes.BAD_VALUE);
        Check.due("pass(MIN)", x.pass(Integer.MIN_VALUE), TwoScribes.BAD_VALUE);
        Check.due("errors are not recorded", x.count(12), 1);
        Check.due("pass(4)", x.pass(4), 0);
        Check.due("an act, also with 0", x.count(12), 2);
        Check.due("pass(1)", x.pass(1), 1);
        Check.due("pass(2), both write", x.pass(2), 2);
        Check.due("pass(2), s1 writes the last", x.pass(2), 1);
        Check.due("count(0)", x.count(0), 9);
        Check.due("in the tick 5", x.place(0, 6), 5);
        Check.due("in the tick 7", x.place(1, 6), 7);
        Check.due("in the tick 7, too", x.place(3, 6), 7);
        Check.due("in the tick 9", x.place(2, 6), 9);
        Check.due("pass(99)", x.pass(99), 0);
        Check.due("who rests does not wait", x.scribe(0, 6), 0);
        Check.dueInk("ink(3)", x.ink(3), 6 / 64.0);
    }

    private static void oneDipsAtATime() {
        TwoScribes x = Check.withPage("zz");
        x.set(0, 4);
        x.pass(1);
        Check.due("s0 begins", x.scribe(0, 4), 4);
        Check.due("s1 waits in the same tick", x.scribe(1, 6), 1);
        x.pass(3);
        Check.due("s0 dips", x.scribe(0, 4), 1);
        Check.due("s1 waits", x.scribe(1, 6), 4);
        x.pass(1);
        Check.due("s0 is through", x.scribe(0, 4), 0);
        Check.due("s1 begins in the same tick", x.scribe(1, 4), 4);
        Check.due("s1 waits no more", x.scribe(1, 6), 4);
    }

    private static void aScribeWhoDipsGoesAheadOfOneWhoWaits() {
        TwoScribes x = Check.withPage("zzz");
        x.set(0, 9);
        x.pass(10);
        Check.due("s1 begins as s0 is through", x.scribe(1, 4), 9);
        x.pass(4);
        Check.due("two are written", x.scribe(0, 1), 2);
        x.pass(1);
        Check.due("s0 waits for s1", x.scribe(0, 6), 1);
        x.pass(3);
        Check.due("s1 dips", x.scribe(1, 4), 1);
        x.pass(1);
        Check.due("s0 still waits, as s1 ends behind it", x.scribe(0, 6), 5);
        Check.due("and does not dip yet", x.scribe(0, 4), 0);
        x.pass(1);
        Check.due("then it begins", x.scribe(0, 4), 9);
        Check.due("and waits no more", x.scribe(0, 6), 5);
    }

    private static void theWellRunsEmpty() {
        TwoScribes x = Check.withPage("zzzzzzz");
        x.pass(99);
        Check.dueInk("the well", x.ink(2), 0.0);
        int waits = x.scribe(0, 6);
        Check.due("next(0)", x.next(0), 4);
        x.pass(7);
        Check.due("waiting counts", x.scribe(0, 6), waits + 7);
        Check.dueInk("the ink adds up", x.ink(0) + x.ink(1) + x.ink(3), 4.0);
    }

    private static void aSmallPenIsNotEnough() {
        TwoScribes x = Check.withPage("zzzzzzz");
        x.pass(99);
        Check.dueInk("the well is empty", x.ink(2), 0.0);
        x.pour(1);
        int dips = x.scribe(0, 5);
        double pen = x.ink(0);
        x.pass(3);
        Check.due("s0 has dipped", x.scribe(0, 5), dips + 1);
        Check.dueInk("and got all there was", x.ink(0), pen + 0.125);
        Check.dueInk("the well is empty again", x.ink(2), 0.0);
        Check.due("not enough: s0 waits", x.next(0), 4);
        x.pour(80);
        Check.due("s0 dips again", x.next(0), 2);
    }

    private static void correctionsDrainTheWellUnderADip() {
        TwoScribes x = Check.withPage("pppppppppp");
        x.set(1, 0);
        x.set(0, 9);
        boolean dipsAtTheLast = false;
        for (int i = 0; i < 99 && !dipsAtTheLast; i++) {
            x.pass(1);
            dipsAtTheLast = x.ink(2) == 1.0 && x.scribe(1, 4) > 0;
        }
        Check.holds("s1 dips in a well with 1.0", dipsAtTheLast);
        for (int i = 3; i >= 0; i--) {
            Check.due("a correction", x.correct(i), i);
        }
        Check.dueInk("the well is empty", x.ink(2), 0.0);
        int dips = x.scribe(1, 5);
        double pen = x.ink(1);
        Check.due("s1 goes on dipping", x.next(1), 1);
        x.pass(9);
        Check.due("the dip is over", x.scribe(1, 5), dips + 1);
        Check.dueInk("and brought nothing", x.ink(1), pen);
    }

    private static void theTickHasAnEnd() {
        // 512 calls do not get there: the object that is used here is used longer than promised.
        TwoScribes x = new TwoScribes();
        for (int i = 0; i < 1010; i++) {
            x.pass(99);
        }
        Check.due("99990 + 10", x.pass(10), TwoScribes.FULL);
        Check.due("99990 + 100", x.pass(100), TwoScribes.BAD_VALUE);
        Check.due("99990 + 9", x.pass(9), 0);
        Check.due("99999 + 1", x.pass(1), TwoScribes.FULL);
        Check.due("count(0)", x.count(0), 99999);
    }
}
