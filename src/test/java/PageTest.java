import java.util.Arrays;

/** Promises 1 to 4: a new object, readPage, misread, correct. */
final class PageTest {
    public static void main(String[] args) {
        newObject();
        readsPages();
        aNewPageTakesThePlaceOfTheOld();
        faultsOfTexts();
        misreadingsOfPlacesThatAreNotThere();
        misreads();
        misreadIsTooLate();
        corrects();
        correctionsAreLimited();
        correctionsNeedInk();
        Check.finish();
    }

    private static void newObject() {
        TwoScribes x = new TwoScribes();
        int[] counts = {0, 0, 0, 0, 0, 4, 0, 0, 0, 2, 7, 4, 0, 0};
        for (int what = 0; what < counts.length; what++) {
            Check.due("new: count(" + what + ")", x.count(what), counts[what]);
        }
        double[] inks = {0.0, 0.0, 4.0, 0.0, 0.0};
        for (int what = 0; what < inks.length; what++) {
            Check.dueInk("new: ink(" + what + ")", x.ink(what), inks[what]);
        }
        int[] told = {2, 0, TwoScribes.NONE, 0, 0, 0, 0};
        for (int s = 0; s < 2; s++) {
            for (int what = 0; what < told.length; what++) {
                Check.due("new: scribe(" + s + ", " + what + ")", x.scribe(s, what), told[what]);
            }
            Check.due("new: next(" + s + ")", x.next(s), 5);
            Check.due("new: bestPace(" + s + ")", x.bestPace(s), TwoScribes.NONE);
        }
        Check.due("new: doneIn()", x.doneIn(), 0);
        Check.due("new: unlikePairs()", x.unlikePairs(), 0);
        Check.due("new: unlikeReadings()", x.unlikeReadings(), 0);
        Check.dueInk("new: needed()", x.needed(), 0.0);
        Check.due("new: place(0, 0)", x.place(0, 0), TwoScribes.UNKNOWN);
        Check.due("new: misread(0, 1)", x.misread(0, 1), TwoScribes.UNKNOWN);
        Check.due("new: correct(0)", x.correct(0), TwoScribes.UNKNOWN);
        Check.due("new: undo()", x.undo(), TwoScribes.NONE);
        Check.due("new: restore()", x.restore(), TwoScribes.NONE);
        Check.due("new: clearText()", x.clearText(), 0);
        Check.due("new: pass(99) writes nothing", x.pass(99), 0);
        Check.due("new: scribes rest, they do not wait", x.scribe(0, 6) + x.scribe(1, 6), 0);
    }

    private static void readsPages() {
        TwoScribes x = new TwoScribes();
        Check.due("read a", Check.read(x, "a"), 2);
        Check.due("read 20 letters", Check.read(x, "abcdefghijklmnopqrst"), 40);
        Check.due("due at 19", x.place(19, 0), 20);
        Check.due("due at 20", x.place(20, 0), 20);
        Check.due("due at 39", x.place(39, 0), 1);
        Check.due("the text stays", x.count(13), 20);
        Check.due("pages", x.count(6), 2);
        Check.due("it is an act", x.count(12), 2);
        Check.due("read misreadings", Check.read(x, "abz!5q,0c,5r"), 6);
        Check.due("place(5, 4): the last one holds", x.place(5, 4), 18);
        Check.due("place(0, 4)", x.place(0, 4), 3);
        Check.due("place(1, 4)", x.place(1, 4), 0);
        Check.due("a misreading is not what is due", x.place(0, 0), 1);
        Check.due("reading again drops misreadings", Check.read(x, "abz"), 6);
        Check.due("place(5, 4) then", x.place(5, 4), 0);
        Check.due("read the greatest place", Check.read(x, "aaaaaaaaaaaaaaaaaaaa!39z,10b"), 40);
        Check.due("place(39, 4)", x.place(39, 4), 26);
        Check.due("place(10, 4)", x.place(10, 4), 2);
    }

    private static void aNewPageTakesThePlaceOfTheOld() {
        TwoScribes x = Check.withPage("ab!3z");
        x.pass(6);
        Check.due("s0 has written a letter", x.scribe(0, 1), 1);
        Check.due("s0 has spent a tick on the next", x.scribe(0, 3), 1);
        x.pass(4);
        Check.due("two are written by s0", x.scribe(0, 1), 2);
        x.correct(0);
        Check.due("a correction is used", x.count(5), 3);
        double pen = x.ink(0);
        double well = x.ink(2);
        Check.due("read abc", Check.read(x, "abc"), 6);
        for (int p = 0; p < 6; p++) {
            Check.due("place(p, 1)", x.place(p, 1), 0);
            Check.due("place(p, 2)", x.place(p, 2), 0);
            Check.due("place(p, 3)", x.place(p, 3), 0);
            Check.due("place(p, 4)", x.place(p, 4), 0);
            Check.due("place(p, 6)", x.place(p, 6), TwoScribes.NONE);
        }
        Check.due("written on it", x.count(2), 0);
        Check.due("blots on it", x.count(3), 0);
        Check.due("corrections on it", x.count(5), 4);
        Check.due("letters so far stay", x.count(7), 4);
        Check.dueInk("the pen stays", x.ink(0), pen);
        Check.dueInk("the well stays", x.ink(2), well);
        Check.due("dips stay", x.scribe(0, 5), 1);
        x.pass(1);
        Check.due("a tick is spent", x.scribe(0, 3), 1);
        Check.due("read it again", x.readPage(), 6);
        Check.due("the tick is lost", x.scribe(0, 3), 0);
        Check.due("a shorter page", Check.read(x, "q"), 2);
        Check.due("no place 2 any more", x.place(2, 0), TwoScribes.UNKNOWN);

        TwoScribes y = Check.withPage("a");
        y.pass(2);
        Check.due("s0 dips", y.scribe(0, 4), 1);
        Check.due("read zz", Check.read(y, "zz"), 4);
        Check.due("s0 goes on dipping", y.scribe(0, 4), 1);
        Check.due("waiting stays", y.scribe(1, 6), 2);
        y.pass(1);
        Check.dueInk("the pen is full", y.ink(0), 1.0);
    }

    private static void faultsOfTexts() {
        fault("", 0);
        fault("A", 0);
        fault("1", 0);
        fault("!", 0);
        fault("`", 0);
        fault("{", 0);
        fault("a ", 1);
        fault("aB", 1);
        fault("a,", 1);
        fault("a!", 2);
        fault("a!!", 2);
        fault("a!b", 2);
        fault("a!,", 2);
        fault("a!:b", 2);
        fault("a!/b", 2);
        fault("a!0", 3);
        fault("a!00b", 3);
        fault("a!05b", 3);
        fault("a!40b", 3);
        fault("a!49b", 3);
        fault("a!99b", 3);
        fault("a!39", 4);
        fault("a!390b", 4);
        fault("a!100b", 4);
        fault("a!1,", 3);
        fault("a!1B", 3);
        fault("a!1b,", 5);
        fault("a!1b,,", 5);
        fault("a!1bc", 4);
        fault("a!1b!", 4);
        fault("a!1b,1", 6);
        fault("aaaaaaaaaaaaaaaaaaaaa", 20);
        fault("aaaaaaaaaaaaaaaaaaaa,", 20);
        fault("\u0000", 0);
        fault("a\u0161", 1);
        fault("aa!0b,0b,0b,0b,0b,0b,0b,0b,0b,0b,0b,0b,0b,0b,0b,0b,0b,0b,0b,", 60);
    }

    private static void fault(String text, int index) {
        TwoScribes x = Check.withPage("abc!0z");
        x.pass(9);
        double[] before = Check.stateOf(x);
        int states = x.count(12);
        Check.due("readPage() of " + text, Check.read(x, text), -100 - index);
        Check.holds("a fault changes nothing: " + text, Arrays.equals(before, Check.stateOf(x)));
        Check.due("a fault is not recorded", x.count(12), states);
        Check.due("the text stays", x.count(13), text.length());
    }

    private static void misreadingsOfPlacesThatAreNotThere() {
        TwoScribes x = Check.withPage("abc");
        Check.due("a!1b", Check.read(x, "a!1b"), 2);
        int states = x.count(12);
        Check.due("a!2b", Check.read(x, "a!2b"), TwoScribes.UNKNOWN);
        Check.due("a!39b,0b", Check.read(x, "a!39b,0b"), TwoScribes.UNKNOWN);
        Check.due("a!0b,39b", Check.read(x, "a!0b,39b"), TwoScribes.UNKNOWN);
        Check.due("19 letters, 38", Check.read(x, "aaaaaaaaaaaaaaaaaaa!38b"), TwoScribes.UNKNOWN);
        Check.due("the fault comes first", Check.read(x, "a!2b,"), -105);
        Check.due("nothing is recorded", x.count(12), states);
        Check.due("the page is as it was", x.count(1), 2);
        Check.due("its misreading too", x.place(1, 4), 2);
    }

    private static void misreads() {
        TwoScribes x = Check.withPage("ab!3c");
        Check.due("misread(0, 0)", x.misread(0, 0), TwoScribes.NONE);
        Check.due("misread(3, 3)", x.misread(3, 3), TwoScribes.NONE);
        Check.due("NONE is not recorded", x.count(12), 1);
        Check.due("misread(3, 26)", x.misread(3, 26), 3);
        Check.due("it is an act", x.count(12), 2);
        Check.due("misread(3, 1), the one that is due", x.misread(3, 1), 26);
        Check.due("place(3, 4)", x.place(3, 4), 1);
        Check.due("misread(3, 0)", x.misread(3, 0), 1);
        Check.due("place(3, 4) then", x.place(3, 4), 0);
        Check.due("misread(2, 5)", x.misread(2, 5), 2);
        Check.due("misread(-1, 0)", x.misread(-1, 0), TwoScribes.UNKNOWN);
        Check.due("misread(4, 0)", x.misread(4, 0), TwoScribes.UNKNOWN);
        Check.due("misread(4, 27)", x.misread(4, 27), TwoScribes.UNKNOWN);
        Check.due("misread(0, 27)", x.misread(0, 27), TwoScribes.BAD_VALUE);
        Check.due("misread(0, -1)", x.misread(0, -1), TwoScribes.BAD_VALUE);
        Check.due("misread(MIN, MIN)", x.misread(Integer.MIN_VALUE, Integer.MIN_VALUE), -1);
        Check.due("misread(0, MAX)", x.misread(0, Integer.MAX_VALUE), TwoScribes.BAD_VALUE);
        x.pass(20);
        Check.due("the misreading is written", x.place(2, 1), 5);
        Check.due("the letter that is due is written", x.place(1, 1), 2);
        Check.dueInk("its own ink is needed", x.ink(3), (1 + 2 + 5 + 1) / 64.0);
    }

    private static void misreadIsTooLate() {
        TwoScribes x = Check.withPage("ab");
        x.pass(3);
        Check.due("dipping spends no tick of the letter", x.misread(0, 3), 1);
        x.pass(1);
        Check.due("a tick was spent", x.misread(0, 4), TwoScribes.NOT_POSSIBLE);
        Check.due("also of the same", x.misread(0, 3), TwoScribes.NOT_POSSIBLE);
        Check.due("but BAD_VALUE is first", x.misread(0, 27), TwoScribes.BAD_VALUE);
        Check.due("not of the next place", x.misread(1, 4), 2);
        x.pass(1);
        Check.due("it is written", x.misread(0, 4), TwoScribes.NOT_POSSIBLE);
        Check.due("s1 has not begun", x.misread(3, 4), 1);
        x.pass(1);
        Check.due("s1 has begun", x.misread(3, 5), TwoScribes.NOT_POSSIBLE);
        Check.due("place(3, 4)", x.place(3, 4), 4);
        x.pass(9);
        Check.due("all is written", x.misread(2, 1), TwoScribes.NOT_POSSIBLE);
    }

    private static void corrects() {
        TwoScribes x = Check.withPage("ab!3z,1a");
        Check.due("not written", x.correct(0), TwoScribes.NOT_POSSIBLE);
        x.pass(4);
        Check.due("begun is not written", x.correct(0), TwoScribes.NOT_POSSIBLE);
        x.pass(20);
        Check.due("blots", x.place(0, 2) + x.place(1, 2) + x.place(2, 2) + x.place(3, 2), 3);
        Check.due("correct(2), neither blot nor misread", x.correct(2), TwoScribes.NONE);
        Check.due("NONE is not recorded", x.count(12), 3);
        int tick = x.place(3, 6);
        double well = x.ink(2);
        Check.due("correct(3), misread", x.correct(3), 3);
        Check.due("it is an act", x.count(12), 4);
        Check.due("the letter that is due", x.place(3, 1), 1);
        Check.due("no blot", x.place(3, 2), 0);
        Check.due("corrected", x.place(3, 3), 1);
        Check.due("the misreading stays told", x.place(3, 4), 26);
        Check.due("the tick stays", x.place(3, 6), tick);
        Check.dueInk("ink of the well", x.ink(2), well - 1 / 64.0);
        Check.dueInk("ink of corrections", x.ink(4), 1 / 64.0);
        Check.due("letters so far stay", x.count(7), 4);
        Check.due("correct(3) again", x.correct(3), TwoScribes.NONE);
        Check.due("correct(0), a blot", x.correct(0), 2);
        Check.due("correct(1), both", x.correct(1), 1);
        Check.dueInk("as told for the letter that is due", x.ink(4), 4 / 64.0);
        Check.due("correct(4)", x.correct(4), TwoScribes.UNKNOWN);
        Check.due("correct(-1)", x.correct(-1), TwoScribes.UNKNOWN);
        Check.due("correct(MIN)", x.correct(Integer.MIN_VALUE), TwoScribes.UNKNOWN);
        Check.due("correct(MAX)", x.correct(Integer.MAX_VALUE), TwoScribes.UNKNOWN);
    }

    private static void correctionsAreLimited() {
        TwoScribes x = Check.withPage("ab");
        x.set(1, 0);
        x.set(2, 1);
        x.pass(30);
        Check.due("the only one", x.correct(0), 0);
        Check.due("0 is no error: it is recorded", x.count(12), 4);
        Check.due("none is left", x.correct(1), TwoScribes.NOT_POSSIBLE);
        Check.due("none is left, ahead of NONE", x.correct(0), TwoScribes.NOT_POSSIBLE);
        x.set(2, 0);
        Check.due("0 at least", x.count(5), 0);
        x.set(2, 3);
        Check.due("used ones count", x.count(5), 2);
        Check.due("correct(1)", x.correct(1), 1);
        Check.due("a new page", Check.read(x, "c"), 2);
        Check.due("has all of them", x.count(5), 3);
    }

    private static void correctionsNeedInk() {
        TwoScribes x = Check.withPage("zzzzzzz");
        x.set(1, 0);
        x.pass(99);
        Check.due("9 of 14 letters are written", x.count(2), 9);
        Check.dueInk("the well is empty", x.ink(2), 0.0);
        Check.due("too little", x.correct(0), TwoScribes.NOT_POSSIBLE);
        x.pour(3);
        Check.due("3/8 are too little for 26/64", x.correct(0), TwoScribes.NOT_POSSIBLE);
        x.pour(1);
        Check.due("4/8 are enough", x.correct(0), 3);
        Check.dueInk("what is left", x.ink(2), 6 / 64.0);

        TwoScribes y = Check.withPage("ppppppp");
        y.set(1, 0);
        y.pass(99);
        Check.dueInk("the well is empty", y.ink(2), 0.0);
        y.pour(2);
        Check.due("just enough", y.correct(0), 3);
        Check.dueInk("nothing is left", y.ink(2), 0.0);
        Check.due("too little ink is ahead of NONE", y.correct(0), TwoScribes.NOT_POSSIBLE);
    }
}
