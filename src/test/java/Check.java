/** What the tests share: comparing an answer with the one that is due, and setting up pages. */
final class Check {
    private static int wrong = 0;
    private static int checked = 0;

    private Check() {
    }

    static void due(String call, long got, long want) {
        checked++;
        if (got != want) {
            wrong++;
            System.out.println(call + " answered " + got + ", due is " + want);
        }
    }

    static void dueInk(String call, double got, double want) {
        checked++;
        if (got != want) {
            wrong++;
            System.out.println(call + " answered " + got + ", due is " + want);
        }
    }

    static void holds(String what, boolean isSo) {
        checked++;
        if (!isSo) {
            wrong++;
            System.out.println("does not hold: " + what);
        }
    }

    /** Ends the test, with exit code 1 if an answer was wrong. */
    static void finish() {
        System.out.println(checked + " checks, " + wrong + " wrong");
        if (wrong != 0) {
            System.exit(1);
        }
    }

    static void typeText(TwoScribes x, String text) {
        x.clearText();
        for (int i = 0; i < text.length(); i++) {
            x.type(text.charAt(i));
        }
    }

    /** Reads a page from a text, and answers what readPage() answers. */
    static int read(TwoScribes x, String text) {
        typeText(x, text);
        return x.readPage();
    }

    static TwoScribes withPage(String text) {
        TwoScribes x = new TwoScribes();
        int places = read(x, text);
        holds("the page " + text + " is read", places >= 2);
        return x;
    }

    /** All that an object tells of its state (and nothing of its history and its text). */
    static double[] stateOf(TwoScribes x) {
        double[] told = new double[40 * 7 + 2 * 9 + 5 + 4 + 12];
        int i = 0;
        for (int p = 0; p < 40; p++) {
            for (int what = 0; what < 7; what++) {
                told[i++] = x.place(p, what);
            }
        }
        for (int s = 0; s < 2; s++) {
            for (int what = 0; what < 7; what++) {
                told[i++] = x.scribe(s, what);
            }
            told[i++] = x.next(s);
            told[i++] = x.bestPace(s);
        }
        for (int what = 0; what < 5; what++) {
            told[i++] = x.ink(what);
        }
        told[i++] = x.doneIn();
        told[i++] = x.unlikePairs();
        told[i++] = x.unlikeReadings();
        told[i++] = x.needed();
        for (int what = 0; what < 12; what++) {
            told[i++] = x.count(what);
        }
        return told;
    }
}
