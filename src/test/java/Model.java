import java.util.ArrayDeque;
import java.util.Deque;
import java.util.regex.Matcher;
import java.util.regex.Pattern;

/**
 * The document told a second time, as plainly as its sentences go and sharing nothing with the
 * program: the ModelTest compares the two. It makes a copy of itself for each state, reads texts by
 * a pattern, and tells what is next by doing it.
 */
final class Model implements Cloneable {
    private static final String PLACE = "(0|[1-9]|[12][0-9]|3[0-9])";
    private static final String MISREADING = PLACE + "[a-z]";
    private static final Pattern PAGE =
            Pattern.compile("[a-z]{1,20}(!" + MISREADING + "(," + MISREADING + ")*)?");

    /** What is no part of the state, and so is shared by all copies. */
    private static final class Desk {
        private String text = "";
        private final Deque<Model> history = new ArrayDeque<>();
        private Model snapshot;
    }

    private Desk desk = new Desk();
    private int n;
    private int[] due = {};
    private int[] told = {};
    private int[] written = {};
    private boolean[] blot = {};
    private boolean[] corrected = {};
    private int[] writtenIn = {};
    private int corrections;
    private int[] pace = {2, 2};
    private int[] lettersOfPage = {0, 0};
    private int[] spent = {0, 0};
    private int[] dipping = {0, 0};
    private int[] dips = {0, 0};
    private int[] waits = {0, 0};
    private float[] pen = {0, 0};
    private float well = 4;
    private float inkOfLetters;
    private float inkOfCorrections;
    private int[] setting = {2, 7, 4};
    private int tick;
    private int pages;
    private int letters;
    private int poured;

    private Model copy() {
        try {
            Model m = (Model) clone();
            m.due = due.clone();
            m.told = told.clone();
            m.written = written.clone();
            m.blot = blot.clone();
            m.corrected = corrected.clone();
            m.writtenIn = writtenIn.clone();
            m.pace = pace.clone();
            m.lettersOfPage = lettersOfPage.clone();
            m.spent = spent.clone();
            m.dipping = dipping.clone();
            m.dips = dips.clone();
            m.waits = waits.clone();
            m.pen = pen.clone();
            m.setting = setting.clone();
            return m;
        } catch (CloneNotSupportedException e) {
            throw new IllegalStateException(e);
        }
    }

    private void become(Model other) {
        Model m = other.copy();
        n = m.n;
        due = m.due;
        told = m.told;
        written = m.written;
        blot = m.blot;
        corrected = m.corrected;
        writtenIn = m.writtenIn;
        corrections = m.corrections;
        pace = m.pace;
        lettersOfPage = m.lettersOfPage;
        spent = m.spent;
        dipping = m.dipping;
        dips = m.dips;
        waits = m.waits;
        pen = m.pen;
        well = m.well;
        inkOfLetters = m.inkOfLetters;
        inkOfCorrections = m.inkOfCorrections;
        setting = m.setting;
        tick = m.tick;
        pages = m.pages;
        letters = m.letters;
        poured = m.poured;
    }

    private void act() {
        desk.history.addLast(copy());
        if (desk.history.size() > 4) {
            desk.history.removeFirst();
        }
    }

    private static float need(int letter) {
        return (float) letter / 64;
    }

    private boolean isPlace(int p) {
        return 0 <= p && p < n;
    }

    private static boolean isScribe(int s) {
        return s == 0 || s == 1;
    }

    private int letterThere(int p) {
        return told[p] == 0 ? due[p] : told[p];
    }

    /** -1 if the scribe has nothing more to write. */
    private int nextPlace(int s) {
        if (lettersOfPage[s] == n / 2) {
            return -1;
        }
        return s == 0 ? lettersOfPage[0] : n - 1 - lettersOfPage[1];
    }

    private static boolean canGoOn(String start) {
        Matcher m = PAGE.matcher(start);
        return m.matches() || m.hitEnd();
    }

    int readPage() {
        String text = desk.text;
        for (int i = 0; i < text.length(); i++) {
            if (!canGoOn(text.substring(0, i + 1))) {
                return -100 - i;
            }
        }
        if (!PAGE.matcher(text).matches()) {
            return -100 - text.length();
        }
        String[] parts = text.split("!");
        String half = parts[0];
        int[] misread = new int[40];
        for (String one : parts.length < 2 ? new String[0] : parts[1].split(",")) {
            int p = Integer.parseInt(one.substring(0, one.length() - 1));
            if (p >= 2 * half.length()) {
                return -1;
            }
            misread[p] = one.charAt(one.length() - 1) - 'a' + 1;
        }
        act();
        n = 2 * half.length();
        due = new int[n];
        told = java.util.Arrays.copyOf(misread, n);
        written = new int[n];
        blot = new boolean[n];
        corrected = new boolean[n];
        writtenIn = new int[n];
        String whole = half + new StringBuilder(half).reverse();
        for (int p = 0; p < n; p++) {
            due[p] = whole.charAt(p) - 'a' + 1;
        }
        corrections = 0;
        lettersOfPage = new int[2];
        spent = new int[2];
        pages++;
        return n;
    }

    int misread(int p, int letter) {
        if (!isPlace(p)) {
            return -1;
        }
        if (letter < 0 || letter > 26) {
            return -2;
        }
        for (int s = 0; s < 2; s++) {
            if (nextPlace(s) == p && spent[s] > 0) {
                return -4;
            }
        }
        if (written[p] > 0) {
            return -4;
        }
        if (told[p] == letter) {
            return -5;
        }
        act();
        int previous = letterThere(p);
        told[p] = letter;
        return previous;
    }

    int correct(int p) {
        if (!isPlace(p)) {
            return -1;
        }
        if (written[p] == 0 || corrections >= setting[2] || well < need(due[p])) {
            return -4;
        }
        if (written[p] == due[p] && !blot[p]) {
            return -5;
        }
        act();
        written[p] = due[p];
        blot[p] = false;
        corrected[p] = true;
        corrections++;
        well = well - need(due[p]);
        inkOfCorrections = inkOfCorrections + need(due[p]);
        return setting[2] - corrections;
    }

    int setPace(int s, int ticks) {
        if (!isScribe(s)) {
            return -1;
        }
        if (ticks < 1 || ticks > 9) {
            return -2;
        }
        int previous = pace[s];
        if (previous == ticks) {
            return -5;
        }
        act();
        pace[s] = ticks;
        return previous;
    }

    int pour(int eighths) {
        if (eighths < 1 || eighths > 80) {
            return -2;
        }
        if (poured + eighths > 9999) {
            return -3;
        }
        act();
        poured += eighths;
        well = well + (float) eighths / 8;
        return poured;
    }

    int set(int which, int value) {
        if (which < 0 || which > 2) {
            return -1;
        }
        int least = which == 0 ? 1 : 0;
        int greatest = which == 0 ? 9 : which == 1 ? 8 : 20;
        if (value < least || value > greatest) {
            return -2;
        }
        int previous = setting[which];
        if (previous == value) {
            return -5;
        }
        act();
        setting[which] = value;
        return previous;
    }

    int pass(int ticks) {
        if (ticks < 1 || ticks > 99) {
            return -2;
        }
        if (tick + ticks > 99999) {
            return -3;
        }
        act();
        int before = letters;
        for (int i = 0; i < ticks; i++) {
            tick++;
            turn(0);
            turn(1);
        }
        return letters - before;
    }

    /** What a scribe does in a tick, by the numbers of next(). */
    private int turn(int s) {
        int other = 1 - s;
        if (dipping[s] > 0) {
            dipping[s]--;
            if (dipping[s] == 0) {
                float more = 1 - pen[s];
                if (well < more) {
                    more = well;
                }
                pen[s] = pen[s] + more;
                well = well - more;
                dips[s]++;
            }
            return 1;
        }
        int p = nextPlace(s);
        if (p < 0) {
            return 5;
        }
        float need = need(letterThere(p));
        if (pen[s] < need && spent[s] == 0) {
            if (dipping[other] > 0) {
                waits[s]++;
                return 3;
            }
            if (well == 0) {
                waits[s]++;
                return 4;
            }
            dipping[s] = setting[0];
            return 2;
        }
        spent[s]++;
        if (spent[s] >= pace[s]) {
            written[p] = letterThere(p);
            writtenIn[p] = tick;
            blot[p] = pen[s] > (float) setting[1] / 8;
            pen[s] = pen[s] - need;
            inkOfLetters = inkOfLetters + need;
            spent[s] = 0;
            lettersOfPage[s]++;
            letters++;
        }
        return 0;
    }

    int type(char character) {
        if (desk.text.length() == 60) {
            return -3;
        }
        desk.text += character;
        return desk.text.length();
    }

    int clearText() {
        int length = desk.text.length();
        desk.text = "";
        return length;
    }

    int undo() {
        if (desk.history.isEmpty()) {
            return -5;
        }
        become(desk.history.removeLast());
        return desk.history.size();
    }

    int keep() {
        desk.snapshot = copy();
        return tick;
    }

    int restore() {
        if (desk.snapshot == null) {
            return -5;
        }
        act();
        become(desk.snapshot);
        return tick;
    }

    int place(int p, int what) {
        if (!isPlace(p)) {
            return -1;
        }
        if (what < 0 || what > 6) {
            return -2;
        }
        int[] answers = {due[p], written[p], blot[p] ? 1 : 0, corrected[p] ? 1 : 0, told[p], n - 1 - p,
            written[p] == 0 ? -5 : writtenIn[p]};
        return answers[what];
    }

    int scribe(int s, int what) {
        if (!isScribe(s)) {
            return -1;
        }
        if (what < 0 || what > 6) {
            return -2;
        }
        int[] answers = {pace[s], lettersOfPage[s], nextPlace(s) < 0 ? -5 : nextPlace(s), spent[s],
            dipping[s], dips[s], waits[s]};
        return answers[what];
    }

    double ink(int what) {
        double[] answers = {pen[0], pen[1], well, inkOfLetters, inkOfCorrections};
        return what < 0 || what > 4 ? -1.0 : answers[what];
    }

    int next(int s) {
        if (!isScribe(s)) {
            return -1;
        }
        Model m = copy();
        int ofScribe0 = m.turn(0);
        return s == 0 ? ofScribe0 : m.turn(1);
    }

    private boolean isDone() {
        return lettersOfPage[0] + lettersOfPage[1] == n;
    }

    int doneIn() {
        Model m = copy();
        int ticks = 0;
        while (!m.isDone()) {
            if (ticks == 2000) {
                return -5;
            }
            m.turn(0);
            m.turn(1);
            ticks++;
        }
        return ticks;
    }

    int unlikePairs() {
        int unlike = 0;
        for (int p = 0, q = n - 1; p < q; p++, q--) {
            if (written[p] > 0 && written[q] > 0 && written[p] != written[q]) {
                unlike++;
            }
        }
        return unlike;
    }

    double needed() {
        float sum = 0;
        for (int p = 0; p < n; p++) {
            if (written[p] == 0) {
                sum = sum + need(letterThere(p));
            }
        }
        return sum;
    }

    int bestPace(int s) {
        if (!isScribe(s)) {
            return -1;
        }
        int best = -5;
        int first = 2001;
        for (int ticks = 9; ticks >= 1 && !isDone(); ticks--) {
            Model m = copy();
            m.pace[s] = ticks;
            int done = m.doneIn();
            if (done >= 0 && done < first) {
                first = done;
                best = ticks;
            }
        }
        return best;
    }

    int count(int what) {
        int writtenOnes = 0;
        int blots = 0;
        int notDue = 0;
        for (int p = 0; p < n; p++) {
            writtenOnes += written[p] > 0 ? 1 : 0;
            blots += blot[p] ? 1 : 0;
            notDue += written[p] > 0 && written[p] != due[p] ? 1 : 0;
        }
        int[] answers = {tick, n, writtenOnes, blots, notDue, Math.max(0, setting[2] - corrections), pages,
            letters, poured, setting[0], setting[1], setting[2], desk.history.size(), desk.text.length()};
        return what < 0 || what > 13 ? -2 : answers[what];
    }
}
