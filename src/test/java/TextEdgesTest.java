/** The edges of texts (promises 2, 9 and 10), by sentences. */
final class TextEdgesTest {
    private static final String SMALL = "abcdefghijklmnopqrstuvwxyz";
    private static final String DIGITS = "0123456789";
    private static final String TWENTY = "abcdefghijklmnopqrst";

    public static void main(String[] args) {
        lengths();
        everyCharacterIsTyped();
        theTextIsFull();
        clearsTheEmptyAndTheFull();
        theLeftHalf();
        behindTheHalf();
        numbers();
        everyNumber();
        behindAMisreading();
        theTextEndsTooEarly();
        theLastOneHolds();
        fullTexts();
        aRefusedTextLeavesNothing();
        theTextIsNoPartOfTheState();
        Check.finish();
    }

    // "a text of at most 60 characters, empty at first"
    private static void lengths() {
        TwoScribes x = new TwoScribes();
        Check.due("empty at first", x.count(13), 0);
        for (int length = 1; length <= 60; length++) {
            Check.due("type() " + length, x.type('a'), length);
            Check.due("count(13)", x.count(13), length);
        }
        Check.due("the 61st", x.type('a'), TwoScribes.FULL);
        Check.due("the 62nd", x.type('a'), TwoScribes.FULL);
        Check.due("count(13) of the full text", x.count(13), 60);
        Check.due("clearText()", x.clearText(), 60);
        Check.due("the first again", x.type('a'), 1);
    }

    // type, "character: any character"
    private static void everyCharacterIsTyped() {
        TwoScribes x = new TwoScribes();
        int length = 0;
        for (int c = 0; c <= Character.MAX_VALUE; c += 257) {
            if (length == 60) {
                x.clearText();
                length = 0;
            }
            length++;
            Check.due("type((char) " + c + ")", x.type((char) c), length);
        }
        Check.due("the first of all", new TwoScribes().type(Character.MIN_VALUE), 1);
        Check.due("the last of all", new TwoScribes().type(Character.MAX_VALUE), 1);
    }

    // "FULL if it has 60 characters"
    private static void theTextIsFull() {
        for (char c : new char[] {'a', ',', '\u0000', '\uffff'}) {
            Refusal.refused("type() into a full text", x -> Check.typeText(x, sixty("c")),
                    x -> x.type(c), TwoScribes.FULL);
            Refusal.refused("type() into a full text, in the midst", x -> {
                Refusal.BUSY.on(x);
                Check.typeText(x, sixty("c"));
            }, x -> x.type(c), TwoScribes.FULL);
        }
    }

    /** A page in 60 characters; the last of them is the one that is given. */
    private static String sixty(String last) {
        return TWENTY + "!" + "0b,".repeat(12) + "10" + last;
    }

    // clearText, "Returns the length that it had": of the empty and of the full one
    private static void clearsTheEmptyAndTheFull() {
        Refusal.refused("clearText() at first", Refusal.FRESH, x -> x.clearText(), 0);
        Refusal.refused("a second clearText()", x -> {
            Refusal.BUSY.on(x);
            x.clearText();
        }, x -> x.clearText(), 0);
        for (int length = 0; length <= 60; length++) {
            TwoScribes x = new TwoScribes();
            Check.typeText(x, "z".repeat(length));
            Check.due("clearText() of " + length, x.clearText(), length);
            Check.due("it is empty", x.count(13), 0);
            Check.due("which is no page", x.readPage(), -100);
            Check.due("and no act", x.count(12), 0);
        }
    }

    private static int answer(String text) {
        return Check.read(new TwoScribes(), text);
    }

    /** Behind a text, only the characters that are given are allowed. */
    private static void allowed(String text, String characters) {
        for (char c = 0; c < 400; c++) {
            allowed(text, characters, c);
        }
        // Those that differ from one that is allowed by the upper half of the sign alone.
        for (int i = 0; i < characters.length(); i++) {
            for (int upper = 0x200; upper <= 0xff00; upper += 0x100) {
                allowed(text, characters, (char) (upper + characters.charAt(i)));
            }
        }
        allowed(text, characters, Character.MAX_VALUE);
    }

    private static void allowed(String text, String characters, char c) {
        int fault = -100 - text.length();
        boolean isFault = answer(text + c) == fault && answer(text + c + "a") == fault;
        boolean isAllowed = characters.indexOf(c) >= 0;
        Check.holds("(char) " + (int) c + " behind " + text + ": " + isAllowed, isFault != isAllowed);
    }

    // "1 to 20 small letters, the left half"
    private static void theLeftHalf() {
        allowed("", SMALL);
        for (int half = 1; half < 20; half++) {
            String text = TWENTY.substring(0, half);
            Check.due("readPage() of " + text, answer(text), 2 * half);
            Check.due("a letter more", answer(text + "z"), 2 * half + 2);
        }
        allowed("a", SMALL + "!");
        allowed(TWENTY.substring(0, 19), SMALL + "!");
        Check.due("20 letters", answer(TWENTY), 40);
        allowed(TWENTY, "!");
        Check.due("21 letters", answer(TWENTY + "a"), -120);
        Check.due("the first fault counts", answer(TWENTY + "A" + "B"), -120);
        for (char c = 'a'; c <= 'z'; c++) {
            TwoScribes x = Check.withPage("" + c);
            Check.due("due is " + c, x.place(0, 0), c - 'a' + 1);
        }
    }

    // "and perhaps, behind "!", one or more misreadings": at least one
    private static void behindTheHalf() {
        allowed("a!", DIGITS);
        allowed(TWENTY + "!", DIGITS);
        Check.due("none", answer("a!"), -102);
        Check.due("one", answer("a!1b"), 2);
        Check.due("two", answer("a!1b,0c"), 2);
    }

    // "each a place (0 to 39) and a small letter"; "Numbers have no zero in front, unless they are
    // the single digit 0; a digit by which a number would be greater than told is not allowed."
    private static void numbers() {
        allowed(TWENTY + "!0", SMALL);
        for (char d = '1'; d <= '3'; d++) {
            allowed(TWENTY + "!" + d, SMALL + DIGITS);
            for (char e = '0'; e <= '9'; e++) {
                allowed(TWENTY + "!" + d + e, SMALL);
            }
        }
        for (char d = '4'; d <= '9'; d++) {
            allowed(TWENTY + "!" + d, SMALL);
        }
        allowed(TWENTY + "!0b,0", SMALL);
        allowed(TWENTY + "!0b,3", SMALL + DIGITS);
        allowed(TWENTY + "!0b,4", SMALL);
        allowed(TWENTY + "!39b,39", SMALL);
    }

    private static void everyNumber() {
        for (int number = 0; number <= 400; number++) {
            int due = 40;
            if (number > 39) {
                // The second digit is too much from 40 on, the third one from 100 on.
                due = number < 100 || number >= 400 ? -122 : -123;
            }
            Check.due("the place " + number, answer(TWENTY + "!" + number + "b"), due);
            String text = TWENTY + "!0" + number + "b";
            Check.due("a zero in front of " + number, answer(text), -122);
        }
        for (int number = 0; number < 40; number++) {
            TwoScribes x = Check.withPage(TWENTY + "!" + number + "z");
            for (int p = 0; p < 40; p++) {
                Check.due("told at " + p + " of " + number, x.place(p, 4), p == number ? 26 : 0);
            }
        }
        Check.due("an int's wrap-around", answer(TWENTY + "!4294967297b"), -122);
        Check.due("another", answer(TWENTY + "!12884901889b"), -123);
    }

    // "with "," between two"
    private static void behindAMisreading() {
        allowed("a!0b", ",");
        allowed("a!1z", ",");
        allowed("a!0b,1c", ",");
        allowed("a!0b,", DIGITS);
        allowed("a!0b,1c,", DIGITS);
    }

    // "or the length of the text if it ends too early (the empty text does)"
    private static void theTextEndsTooEarly() {
        String text = TWENTY + "!0b,39c,5d";
        for (int length = 0; length <= text.length(); length++) {
            int due = -100 - length;
            if (length >= 1 && length <= 20) {
                due = 2 * length;
            } else if (length == 23 || length == 27 || length == 30) {
                due = 40;
            }
            String begin = text.substring(0, length);
            Check.due("readPage() of " + begin, answer(begin), due);
        }
    }

    // "(of several for a place the last one holds)"
    private static void theLastOneHolds() {
        TwoScribes x = Check.withPage("ab!0c,0d,3e,0f,3g");
        Check.due("of three", x.place(0, 4), 6);
        Check.due("of two", x.place(3, 4), 7);
        Check.due("of none", x.place(1, 4), 0);
        Check.due("of none, too", x.place(2, 4), 0);
        TwoScribes y = Check.withPage("ab!0c,0a");
        Check.due("the letter that is due", y.place(0, 4), 1);
        TwoScribes z = Check.withPage("ab!0c,0c");
        Check.due("the same one", z.place(0, 4), 3);
    }

    private static void fullTexts() {
        TwoScribes x = new TwoScribes();
        Check.due("60 characters are a page", Check.read(x, sixty("c")), 40);
        Check.due("all of them", x.count(13), 60);
        Check.due("the first misreading", x.place(0, 4), 2);
        Check.due("the last misreading", x.place(10, 4), 3);
        Check.due("a fault at the last one", answer(sixty("C")), -159);
        Check.due("60 end too early", answer(TWENTY + "!" + "0b,".repeat(13)), -160);
        Check.due("60 letters", answer("z".repeat(60)), -120);
        Check.due("59 end too early", answer("a!" + "0b,".repeat(19)), -159);
        Check.due("60 end at a place", answer("a!" + "0b,".repeat(19) + "1"), -160);
        Check.due("58 with 19 misreadings", answer("a!" + "0b,".repeat(18) + "0b"), 2);
        TwoScribes y = Check.withPage("aaa!" + "0b,".repeat(18) + "1c");
        Check.due("60, the last one holds", y.place(1, 4), 3);
        Check.due("readPage() answers -160 and goes on", Check.read(y, "a!" + "0b,".repeat(19) + "1"), -160);
        Check.due("with the page as it was", y.count(1), 6);
    }

    private static void aRefusedTextLeavesNothing() {
        TwoScribes x = Check.withPage("ab!0c");
        Check.due("a fault behind misreadings", Check.read(x, "zzzz!1y,2x,7w,"), -114);
        Check.due("due as before", x.place(0, 0), 1);
        Check.due("told as before", x.place(0, 4), 3);
        Check.due("nothing is told of 1", x.place(1, 4), 0);
        Check.due("a place that is not there", Check.read(x, "q!1y,0x,2w"), TwoScribes.UNKNOWN);
        Check.due("places as before", x.count(1), 4);
        Check.due("told as before", x.place(0, 4), 3);
        Check.due("a page without misreadings", Check.read(x, "ef"), 4);
        for (int p = 0; p < 4; p++) {
            Check.due("nothing is left of them", x.place(p, 4), 0);
        }
        Check.due("the first one of it", x.place(3, 0), 5);
        x.type('!');
        Check.due("the text goes on behind the page", x.readPage(), -103);
        x.type('3');
        x.type('z');
        Check.due("until it is a page again", x.readPage(), 4);
        Check.due("with its misreading", x.place(3, 4), 26);
    }

    // "A state is everything but the text, the history and the snapshot."
    private static void theTextIsNoPartOfTheState() {
        TwoScribes x = Check.withPage("ab");
        Check.typeText(x, "xyz");
        x.undo();
        Check.due("undo() leaves it", x.count(13), 3);
        x.keep();
        x.clearText();
        x.restore();
        Check.due("restore() leaves it empty", x.count(13), 0);
        Check.due("which is no page", x.readPage(), -100);
        Check.typeText(x, sixty("c"));
        x.undo();
        x.restore();
        Check.due("and full", x.count(13), 60);
        Check.due("which is one", x.readPage(), 40);
        Check.due("readPage() leaves it", x.count(13), 60);
        x.undo();
        Check.due("also undone", x.count(13), 60);
    }
}
