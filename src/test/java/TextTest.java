/** Promises 9 and 10: type, clearText (and what is no part of the state). */
final class TextTest {
    public static void main(String[] args) {
        types();
        clears();
        theTextIsNoState();
        Check.finish();
    }

    private static void types() {
        TwoScribes x = new TwoScribes();
        char[] some = {'a', '!', '0', '\u0000', '\u00e9', '\uffff', ' '};
        for (int i = 0; i < some.length; i++) {
            Check.due("type of any character", x.type(some[i]), i + 1);
        }
        for (int i = some.length; i < 60; i++) {
            Check.due("type(b)", x.type('b'), i + 1);
        }
        Check.due("the 61st", x.type('b'), TwoScribes.FULL);
        Check.due("the length", x.count(13), 60);
        Check.due("no act", x.count(12), 0);
    }

    private static void clears() {
        TwoScribes x = new TwoScribes();
        Check.due("clearText() of none", x.clearText(), 0);
        Check.typeText(x, "abc");
        Check.due("clearText()", x.clearText(), 3);
        Check.due("the length", x.count(13), 0);
        Check.due("the text is empty", x.readPage(), -100);
        Check.due("type(z)", x.type('z'), 1);
        Check.due("nothing is left of the old one", x.readPage(), 2);
        Check.due("place(0, 0)", x.place(0, 0), 26);
        for (int i = 1; i < 60; i++) {
            x.type('q');
        }
        Check.due("clearText() of 60", x.clearText(), 60);
        Check.due("only the pages are acts", x.count(12), 1);
    }

    private static void theTextIsNoState() {
        TwoScribes x = Check.withPage("abc");
        x.type('d');
        x.keep();
        x.clearText();
        x.undo();
        Check.due("undo() leaves the text", x.count(13), 0);
        x.type('e');
        x.restore();
        Check.due("restore() too", x.count(13), 1);
        Check.due("readPage() of e", x.readPage(), 2);
        Check.due("place(1, 0)", x.place(1, 0), 5);
    }
}
