/**
 * Runs of 512 calls on a new object and on the Model, chosen by a fixed rule: both must answer each
 * of them alike. Some runs have heavy letters and little ink, some have many faults in their texts,
 * some have many arguments that are out of range.
 */
final class ModelTest {
    private static final int RUNS = 1500;
    private static final int CALLS = 512;
    private static final String SIGNS = "az!,0139 A`{/:\u0000\u0161\uffff";

    private final Choice choice;
    private final TwoScribes asked = new TwoScribes();
    private final Model model = new Model();
    private final int oddity;
    private final int lightest;
    private final int run;
    private String waiting = "";
    private boolean readNext;
    private int wrong;

    private ModelTest(int run) {
        this.run = run;
        choice = new Choice(run);
        oddity = choice.oneOf(4, 20, 20, 1000);
        lightest = choice.oneOf(1, 1, 12, 20);
    }

    public static void main(String[] args) {
        for (int run = 0; run < RUNS; run++) {
            new ModelTest(run).callAll();
        }
        Check.finish();
    }

    private void callAll() {
        // Behind a wrong answer the two may go apart: one report for a run is enough.
        for (int i = 0; i < CALLS && wrong == 0; i++) {
            if (!waiting.isEmpty()) {
                type(waiting.charAt(0));
                waiting = waiting.substring(1);
            } else if (readNext) {
                readNext = false;
                same("readPage()", asked.readPage(), model.readPage());
            } else if (choice.oneIn(2)) {
                tell();
            } else {
                act();
            }
        }
    }

    private void same(String call, double got, double want) {
        Check.dueInk("run " + run + ": " + call, got, want);
        wrong += got != want ? 1 : 0;
    }

    private void type(char c) {
        same("type((char) " + (int) c + ")", asked.type(c), model.type(c));
    }

    /** A number in the range, or by and by one beside it or far from it. */
    private int number(int least, int greatest) {
        if (!choice.oneIn(oddity)) {
            return choice.between(least, greatest);
        }
        return choice.oneOf(least, least - 1, greatest, greatest + 1, Integer.MIN_VALUE,
                Integer.MAX_VALUE, -least, -greatest, 1 << 16);
    }

    private int aPlace() {
        return choice.oneIn(6) ? number(0, 39) : number(0, Math.max(1, model.count(1) - 1));
    }

    private void act() {
        switch (choice.below(24)) {
            case 0:
            case 1:
                beginText();
                break;
            case 2:
                same("readPage()", asked.readPage(), model.readPage());
                break;
            case 3:
            case 4:
                misread(aPlace(), choice.oneIn(3) ? 0 : number(1, 26));
                break;
            case 5:
            case 6:
            case 7:
                correct(aPlace());
                break;
            case 8:
            case 9:
                setPace(number(0, 1), number(1, 9));
                break;
            case 10:
                pour(choice.oneIn(2) ? number(1, 80) : number(1, 5));
                break;
            case 11:
                set(number(0, 2), number(0, 8));
                break;
            case 12:
                set(1, choice.oneOf(0, 8, 8, 7, 6, 3));
                break;
            case 13:
                set(2, number(0, 20));
                break;
            case 14:
                same("undo()", asked.undo(), model.undo());
                break;
            case 15:
                same("keep()", asked.keep(), model.keep());
                break;
            case 16:
                same("restore()", asked.restore(), model.restore());
                break;
            case 17:
                type((char) choice.below(70000));
                break;
            default:
                pass(choice.oneIn(5) ? number(1, 99) : number(1, 4));
                break;
        }
    }

    private void misread(int place, int letter) {
        same("misread(" + place + ", " + letter + ")", asked.misread(place, letter),
                model.misread(place, letter));
    }

    private void correct(int place) {
        same("correct(" + place + ")", asked.correct(place), model.correct(place));
    }

    private void setPace(int scribe, int ticks) {
        same("setPace(" + scribe + ", " + ticks + ")", asked.setPace(scribe, ticks),
                model.setPace(scribe, ticks));
    }

    private void pour(int eighths) {
        same("pour(" + eighths + ")", asked.pour(eighths), model.pour(eighths));
    }

    private void set(int which, int value) {
        same("set(" + which + ", " + value + ")", asked.set(which, value), model.set(which, value));
    }

    private void pass(int ticks) {
        same("pass(" + ticks + ")", asked.pass(ticks), model.pass(ticks));
    }

    private void tell() {
        switch (choice.below(12)) {
            case 0:
            case 1:
            case 2:
                tellPlace(aPlace(), number(0, 6));
                break;
            case 3:
            case 4:
                tellScribe(number(0, 1), number(0, 6));
                break;
            case 5:
                tellInk(number(0, 4));
                break;
            case 6:
                tellNext(number(0, 1));
                break;
            case 7:
                same("doneIn()", asked.doneIn(), model.doneIn());
                break;
            case 8:
                tellUnlike();
                break;
            case 9:
                same("needed()", asked.needed(), model.needed());
                break;
            case 10:
                tellBestPace(number(0, 1));
                break;
            default:
                tellCount(number(0, 13));
                break;
        }
    }

    private void tellPlace(int place, int what) {
        same("place(" + place + ", " + what + ")", asked.place(place, what), model.place(place, what));
    }

    private void tellScribe(int scribe, int what) {
        same("scribe(" + scribe + ", " + what + ")", asked.scribe(scribe, what),
                model.scribe(scribe, what));
    }

    private void tellInk(int what) {
        same("ink(" + what + ")", asked.ink(what), model.ink(what));
    }

    private void tellNext(int scribe) {
        same("next(" + scribe + ")", asked.next(scribe), model.next(scribe));
    }

    private void tellUnlike() {
        if (choice.oneIn(2)) {
            same("unlikePairs()", asked.unlikePairs(), model.unlikePairs());
        } else {
            same("unlikeReadings()", asked.unlikeReadings(), model.unlikePairs());
        }
    }

    private void tellBestPace(int scribe) {
        same("bestPace(" + scribe + ")", asked.bestPace(scribe), model.bestPace(scribe));
    }

    private void tellCount(int what) {
        same("count(" + what + ")", asked.count(what), model.count(what));
    }

    /** The text that was is emptied; the characters of the next are typed one by one. */
    private void beginText() {
        same("clearText()", asked.clearText(), model.clearText());
        int half = choice.oneIn(4) ? choice.between(1, 21) : choice.between(1, 6);
        StringBuilder text = new StringBuilder();
        for (int i = 0; i < half; i++) {
            text.append(letter());
        }
        int misreadings = choice.oneOf(0, 0, 1, 2, choice.below(15));
        for (int i = 0; i < misreadings; i++) {
            text.append(i == 0 ? '!' : ',');
            text.append(choice.oneIn(30) ? choice.below(50) : choice.below(2 * half)).append(letter());
        }
        if (choice.oneIn(Math.min(oddity, 9))) {
            damage(text);
        }
        waiting = text.toString();
        readNext = true;
    }

    private char letter() {
        return (char) ('a' + choice.between(lightest, 26) - 1);
    }

    private void damage(StringBuilder text) {
        int at = choice.below(text.length());
        char sign = SIGNS.charAt(choice.below(SIGNS.length()));
        switch (choice.below(4)) {
            case 0:
                text.setLength(at);
                break;
            case 1:
                text.setCharAt(at, sign);
                break;
            case 2:
                text.deleteCharAt(at);
                break;
            default:
                text.insert(at, sign);
                break;
        }
    }
}
