/** Promises 20 to 23, and 'Texts': the boundary cases, sentence by sentence. */
final class TextsEdgesTest {
    private static final int MIN = Integer.MIN_VALUE;
    private static final int MAX = Integer.MAX_VALUE;
    private static final int INVALID = -1;
    private static final int IMPOSSIBLE = -2;
    private static final int LIMIT = -3;
    private static final int NOT_FOUND = -4;
    private static final int WRONG = 1;
    private static final int NO_COLOR = 2;
    private static final int FOURTH = 3;
    private static final int TOO_EARLY = 4;

    public static void main(String[] args) throws ReflectiveOperationException {
        Due.runAll(TextsEdgesTest.class);
    }

    private static EnamelKiln withColors(int colors) {
        EnamelKiln x = new EnamelKiln();
        for (int color = 0; color < colors; color++) {
            x.color(700, 800, 100);
        }
        return x;
    }

    private static EnamelKiln withText(int colors, String text) {
        EnamelKiln x = withColors(colors);
        Due.type(x, text);
        return x;
    }

    private static void type(EnamelKiln x, int character, int due) {
        Due.is("type(" + character + ")", x.type(character), due);
    }

    private static void fault(int colors, String text, int position, int reason) {
        EnamelKiln x = withText(colors, text);
        Due.is("fault(0) of " + text, x.fault(0), position);
        Due.is("fault(1) of " + text, x.fault(1), reason);
        Due.is("read() of " + text, x.read(), IMPOSSIBLE);
    }

    private static void noFault(int colors, String text, int wishes) {
        EnamelKiln x = withText(colors, text);
        Due.is("fault(0) of " + text, x.fault(0), NOT_FOUND);
        Due.is("fault(1) of " + text, x.fault(1), NOT_FOUND);
        Due.is("read() of " + text, x.read(), wishes);
    }

    private static void wishes(EnamelKiln x, int field, int... colors) {
        for (int index = 0; index <= colors.length; index++) {
            Due.is("wished(" + field + ", " + index + ")", x.wished(field, index),
                index < colors.length ? colors[index] : NOT_FOUND);
        }
    }

    /** What is said of each of the characters 32 to 126 behind this text: here these stand, the others are wrong. */
    private static void standing(int colors, String text, String good, int goodReason) {
        for (char c = 32; c <= 126; c++) {
            EnamelKiln x = withText(colors, text + c);
            if (good.indexOf(c) >= 0) {
                Due.is("fault(1) of " + text + c, x.fault(1), c == ';' ? NOT_FOUND : goodReason);
            } else {
                Due.is("fault(0) of " + text + c, x.fault(0), text.length());
                Due.is("fault(1) of " + text + c, x.fault(1), WRONG);
            }
        }
    }

    // ---- texts

    /** Promise 20, Texts: "There is a text of at most 80 characters, initially empty" */
    static void textFromNoneTo80() {
        EnamelKiln x = new EnamelKiln();
        Due.is("initially", x.count(22), 0);
        for (int length = 1; length <= 80; length++) {
            type(x, 32 + length, length);
        }
        type(x, 65, LIMIT);
        Due.is("at most", x.count(22), 80);
    }

    /**
     * Promise 22, Texts: "a sequence of wishes, each followed by ";": a digit 0 to 5 for the field, "=", and 0
     * to 3 letters of colors, from the metal outward; of several for one field the last one counts." (here:
     * each character at each place)
     */
    static void eachCharacterAtEachPlace() {
        standing(12, "", "012345", TOO_EARLY);
        standing(12, "0", "=", TOO_EARLY);
        standing(12, "0=", "abcdefghijkl;", TOO_EARLY);
        standing(12, "0=a", "abcdefghijkl;", TOO_EARLY);
        standing(12, "0=al", "abcdefghijkl;", TOO_EARLY);
        standing(12, "0=ala", "abcdefghijkl;", FOURTH);
        standing(12, "0=ala;", "012345", TOO_EARLY);
        standing(12, "0=ala;5", "=", TOO_EARLY);
        standing(0, "5=", "abcdefghijkl;", NO_COLOR);
    }

    /** Promise 22, Texts: "a sequence of wishes, each followed by ";"" (none, one, several, the last one not followed) */
    static void wishesFollowedBySemicolons() {
        noFault(1, "", 0);
        noFault(1, "0=a;", 1);
        noFault(1, "0=a;1=a;", 2);
        fault(1, "0=a", 3, TOO_EARLY);
        fault(1, "0=a;1=a", 7, TOO_EARLY);
        fault(1, "0=a1=a;", 3, WRONG);
        fault(1, "0=a,1=a;", 3, WRONG);
        fault(1, ";", 0, WRONG);
        fault(1, "0=a;;", 4, WRONG);
    }

    /** Promise 22, Texts: "a digit 0 to 5 for the field" */
    static void digitsFromNoughtToFive() {
        fault(1, "/=a;", 0, WRONG);
        for (int field = 0; field <= 5; field++) {
            EnamelKiln x = withText(1, field + "=a;");
            Due.is("read()", x.read(), 1);
            wishes(x, field, 0);
            Due.is("colors in wishes", x.count(20), 1);
        }
        fault(1, "6=a;", 0, WRONG);
        fault(1, "00=a;", 1, WRONG);
    }

    /** Promise 22, Texts: "and 0 to 3 letters of colors, from the metal outward" */
    static void lettersFromNoneToThree() {
        noFault(3, "0=;", 1);
        noFault(3, "0=a;", 1);
        noFault(3, "0=ab;", 1);
        noFault(3, "0=abc;", 1);
        fault(3, "0=abca;", 5, FOURTH);
        EnamelKiln x = withText(3, "0=cab;");
        Due.is("read()", x.read(), 1);
        wishes(x, 0, 2, 0, 1);
    }

    /** Promise 23, Texts: "of several for one field the last one counts." */
    static void theLastOneCounts() {
        EnamelKiln x = withText(3, "2=abc;2=b;");
        Due.is("read()", x.read(), 2);
        wishes(x, 2, 1);
        x = withText(3, "2=b;3=a;2=;");
        Due.is("read()", x.read(), 3);
        wishes(x, 2);
        wishes(x, 3, 0);
        x = withText(3, "2=;2=a;2=ccc;");
        Due.is("read()", x.read(), 3);
        wishes(x, 2, 2, 2, 2);
    }

    /**
     * Promise 22, Texts: "The fault of the text is the position, from 0, of the first character that cannot
     * stand where it stands, or its length"
     */
    static void positionOfTheFirstOrTheLength() {
        fault(2, "x", 0, WRONG);
        fault(2, "0x", 1, WRONG);
        fault(2, "0=x", 2, WRONG);
        fault(2, "0=ax", 3, WRONG);
        fault(2, "0=abx", 4, WRONG);
        fault(2, "0=abax", 5, WRONG);
        fault(2, "0=aba;x", 6, WRONG);
        fault(2, "xx;0=c;", 0, WRONG);
        fault(2, "0=c;x", 2, NO_COLOR);
        fault(2, "0=aaaa;0=c;", 5, FOURTH);
        fault(2, "0", 1, TOO_EARLY);
        fault(2, "0=", 2, TOO_EARLY);
        fault(2, "0=a", 3, TOO_EARLY);
        fault(2, "0=ab", 4, TOO_EARLY);
        fault(2, "0=aba", 5, TOO_EARLY);
        fault(2, "0=aba;0", 7, TOO_EARLY);
    }

    /** Promise 22, Texts: "or its length" (of 80 characters, and a fault of the last one) */
    static void positionIn80Characters() {
        String text = "5=aba;".repeat(13);
        fault(2, text + "5=", 80, TOO_EARLY);
        fault(2, text + "5;", 79, WRONG);
        fault(2, text + "=5", 78, WRONG);
        fault(2, text.substring(0, 76) + "=a;x", 76, WRONG);
        noFault(2, "0=b;".repeat(20), 20);
    }

    /**
     * Promise 22, Texts: "its reason is 1 if the character is wrong there, 2 if it is a letter a to l of a color
     * that there is not, 3 if it is a fourth letter a to l, 4 (at the length) if the text ends too early; the
     * first one of these that applies."
     */
    static void reasonsFromOneToFour() {
        fault(2, "0=abm;", 4, WRONG);
        fault(2, "0=abc;", 4, NO_COLOR);
        fault(2, "0=aba", 5, TOO_EARLY);
        fault(2, "0=abaa", 5, FOURTH);
        fault(2, "0=abac", 5, NO_COLOR);
        fault(2, "0=abam", 5, WRONG);
    }

    /** Promise 22, Texts: "1 if the character is wrong there" (a letter is wrong where no letter can stand) */
    static void reasonOneForLettersOutOfPlace() {
        for (char letter = 'a'; letter <= 'm'; letter++) {
            fault(1, "" + letter, 0, WRONG);
            fault(1, "0" + letter, 1, WRONG);
            fault(1, "0=;" + letter, 3, WRONG);
            fault(1, "0=aaa;3" + letter, 7, WRONG);
        }
    }

    /** Promise 22, Texts: "2 if it is a letter a to l of a color that there is not" */
    static void reasonTwoFromTheNumberOfColorsOn() {
        for (int colors = 0; colors <= 12; colors++) {
            for (char letter = '`'; letter <= 'm'; letter++) {
                String text = "4=" + letter;
                if (letter < 'a' || letter > 'l') {
                    fault(colors, text, 2, WRONG);
                } else if (letter - 'a' < colors) {
                    fault(colors, text, 3, TOO_EARLY);
                } else {
                    fault(colors, text, 2, NO_COLOR);
                }
            }
        }
    }

    /** Promise 22, Texts: "3 if it is a fourth letter a to l" */
    static void reasonThreeForTheFourth() {
        for (char letter = 'a'; letter <= 'l'; letter++) {
            fault(12, "0=ab" + letter, 5, TOO_EARLY);
            fault(12, "0=abc" + letter, 5, FOURTH);
            fault(12, "0=abc" + letter + letter, 5, FOURTH);
            fault(12, "0=a;1=abc" + letter + ";", 9, FOURTH);
        }
        fault(12, "0=abc`", 5, WRONG);
        fault(12, "0=abcm", 5, WRONG);
        noFault(12, "0=abc;0=abc;", 2);
    }

    /** Promise 22, Texts: "4 (at the length) if the text ends too early" */
    static void reasonFourAtEachEnd() {
        String text = "0=;1=a;2=ab;3=aba;";
        for (int length = 1; length <= text.length(); length++) {
            String part = text.substring(0, length);
            if (part.endsWith(";")) {
                noFault(2, part, (int) part.chars().filter(c -> c == ';').count());
            } else {
                fault(2, part, length, TOO_EARLY);
            }
        }
    }

    /** Promise 22, Texts: "the first one of these that applies." */
    static void theFirstReasonThatApplies() {
        fault(1, "0=aaab", 5, NO_COLOR);
        fault(1, "0=aaaa", 5, FOURTH);
        fault(0, "0=a", 2, NO_COLOR);
        fault(0, "a", 0, WRONG);
    }

    // ---- type

    /** Promise 20: "Appends a character to the text." */
    static void typeAppendsBehind() {
        EnamelKiln x = withColors(2);
        type(x, '0', 1);
        Due.is("fault(0)", x.fault(0), 1);
        type(x, '=', 2);
        type(x, 'b', 3);
        type(x, 'a', 4);
        Due.is("fault(0)", x.fault(0), 4);
        type(x, ';', 5);
        Due.is("fault(0)", x.fault(0), NOT_FOUND);
        Due.is("read()", x.read(), 1);
        wishes(x, 0, 1, 0);
    }

    /** Promise 20: "`character`: its code, 32 to 126" */
    static void typeFrom32To126() {
        EnamelKiln x = new EnamelKiln();
        type(x, 31, INVALID);
        type(x, 32, 1);
        type(x, 126, 2);
        type(x, 127, INVALID);
        Due.is("length", x.count(22), 2);
        x.clearText();
        for (int character = 32; character < 112; character++) {
            type(x, character, character - 31);
        }
        x.clearText();
        for (int character = 112; character <= 126; character++) {
            type(x, character, character - 111);
        }
    }

    /** Promise 20: "Returns the length of the text" */
    static void typeReturnsOneTo80() {
        EnamelKiln x = new EnamelKiln();
        for (int length = 1; length <= 80; length++) {
            type(x, ';', length);
            Due.is("length", x.count(22), length);
        }
        x.clearText();
        type(x, ';', 1);
    }

    /** Promise 20: "INVALID_ARGUMENT if character is out of range" */
    static void typeOutOfRange() {
        EnamelKiln x = new EnamelKiln();
        for (int character : new int[] {MIN, -48, -1, 0, 9, 10, 31, 127, 128, 255, 65536 + '0', MAX}) {
            type(x, character, INVALID);
        }
        Due.is("length", x.count(22), 0);
    }

    /** Promise 20: "LIMIT_REACHED if the text has 80 characters" */
    static void no81stCharacter() {
        EnamelKiln x = withText(1, "0=a;".repeat(20));
        for (int character = 32; character <= 126; character++) {
            type(x, character, LIMIT);
        }
        type(x, 31, INVALID);
        type(x, 127, INVALID);
        Due.is("length", x.count(22), 80);
        Due.is("fault(0)", x.fault(0), NOT_FOUND);
        Due.is("clearText()", x.clearText(), 80);
        type(x, 32, 1);
    }

    // ---- clearText

    /** Promise 21: "Empties the text." */
    static void clearTextEmpties() {
        EnamelKiln x = withText(1, "0=a;x");
        x.clearText();
        Due.is("length", x.count(22), 0);
        Due.is("fault(0)", x.fault(0), NOT_FOUND);
        Due.is("read()", x.read(), 0);
        Due.is("wishes", x.count(20), 0);
        type(x, '1', 1);
        Due.is("fault(0)", x.fault(0), 1);
        Due.is("fault(1)", x.fault(1), TOO_EARLY);
    }

    /** Promise 21: "Returns the length it had." */
    static void clearTextReturnsNoneTo80() {
        EnamelKiln x = new EnamelKiln();
        Due.is("of none", x.clearText(), 0);
        for (int length : new int[] {1, 2, 79, 80}) {
            for (int i = 0; i < length; i++) {
                x.type('0');
            }
            Due.is("of " + length, x.clearText(), length);
            Due.is("again", x.clearText(), 0);
        }
        for (int i = 0; i < 81; i++) {
            x.type('0');
        }
        Due.is("of one too many", x.clearText(), 80);
    }

    // ---- fault

    /** Promise 22: "Tells about the fault of the text." */
    static void faultChangesNothing() {
        EnamelKiln x = withText(1, "0=a;1");
        for (int what = -1; what <= 2; what++) {
            x.fault(what);
        }
        Due.same("behind fault", x, withText(1, "0=a;1"));
    }

    /** Promise 22: "`what`: 0: its position; 1: its reason" */
    static void faultNoughtAndOne() {
        EnamelKiln x = withText(1, "0=a;1=b");
        Due.is("fault(-1)", x.fault(-1), INVALID);
        Due.is("fault(0)", x.fault(0), 6);
        Due.is("fault(1)", x.fault(1), NO_COLOR);
        Due.is("fault(2)", x.fault(2), INVALID);
    }

    /** Promise 22: "Returns that" (as the text and the colors are now) */
    static void faultFollowsTextAndColors() {
        EnamelKiln x = withText(1, "0=b;");
        Due.is("fault(1) without b", x.fault(1), NO_COLOR);
        x.color(700, 800, 100);
        Due.is("fault(1) with b", x.fault(1), NOT_FOUND);
        x.type('x');
        Due.is("fault(0) behind x", x.fault(0), 4);
        Due.is("fault(1) behind x", x.fault(1), WRONG);
        x.undo();
        Due.is("fault(0) without b again", x.fault(0), 2);
        Due.is("fault(1) without b again", x.fault(1), NO_COLOR);
        x.clearText();
        Due.is("fault(0) of none", x.fault(0), NOT_FOUND);
    }

    /** Promise 22: "INVALID_ARGUMENT if what is out of range" */
    static void faultOutOfRange() {
        for (String text : new String[] {"", "0=a;", "x"}) {
            EnamelKiln x = withText(1, text);
            for (int what : new int[] {MIN, -2, -1, 2, 3, MAX}) {
                Due.is("fault(" + what + ")", x.fault(what), INVALID);
            }
        }
    }

    /** Promise 22: "NOT_FOUND if the text has no fault (also if it is empty)" */
    static void noFaultNorInNothing() {
        noFault(0, "", 0);
        noFault(12, "", 0);
        noFault(0, "0=;", 1);
        noFault(1, "0=;5=a;3=aaa;", 3);
        noFault(12, "5=l;0=lll;", 2);
        noFault(12, "5=kl;4=ijk;3=h;2=efg;1=;0=abd;", 6);
    }

    // ---- read

    /**
     * Promise 23: "Makes the wishes of the text those of their fields, in place of what was wished there;
     * wishes of other fields stay, as does the text."
     */
    static void readInPlaceOfWhatWasWished() {
        EnamelKiln x = withColors(3);
        for (int field = 0; field <= 5; field++) {
            for (int i = 0; i < 1 + field % 3; i++) {
                x.wish(field, 2);
            }
        }
        Due.type(x, "0=;1=ab;2=a;5=bba;");
        Due.is("read()", x.read(), 4);
        wishes(x, 0);
        wishes(x, 1, 0, 1);
        wishes(x, 2, 0);
        wishes(x, 3, 2);
        wishes(x, 4, 2, 2);
        wishes(x, 5, 1, 1, 0);
        Due.is("the text stays", x.count(22), 18);
        Due.is("read() again", x.read(), 4);
        wishes(x, 5, 1, 1, 0);
        Due.is("colors in wishes", x.count(20), 9);
        Due.is("clearText()", x.clearText(), 18);
        Due.is("read() of none", x.read(), 0);
        Due.is("colors in wishes", x.count(20), 9);
    }

    /** Promise 23: "Returns how many wishes there are in it (several for one field are several)" */
    static void readReturnsNoneTo26() {
        for (int wishes = 0; wishes <= 26; wishes++) {
            EnamelKiln x = withText(0, "3=;".repeat(wishes));
            Due.is("read()", x.read(), wishes);
        }
        EnamelKiln x = withText(1, "0=a;0=a;0=;1=a;");
        Due.is("read() of several", x.read(), 4);
        Due.is("colors in wishes", x.count(20), 1);
    }

    /** Promise 23: "NOT_POSSIBLE if it has a fault" */
    static void readOfAFault() {
        String[] texts = {"x", "0=a;1", "0=a;1=", "0=a;1=a", "0=a;1=b;", "0=a;1=aaaa;", "0=a;;", "6=a;", "0=a; "};
        for (String text : texts) {
            EnamelKiln x = withText(1, text);
            x.wish(0, 0);
            x.wish(0, 0);
            Due.is("read() of " + text, x.read(), IMPOSSIBLE);
            wishes(x, 0, 0, 0);
            wishes(x, 1);
            Due.is("states", x.count(21), 3);
            Due.is("length", x.count(22), text.length());
        }
        EnamelKiln x = withText(2, "0=b;");
        Due.is("read()", x.read(), 1);
        x.undo();
        x.undo();
        Due.is("read() with a color less", x.read(), IMPOSSIBLE);
    }
}
