/** Promises 1 to 3, and 'Colors': the boundary cases, sentence by sentence. */
final class ColorsEdgesTest {
    private static final int MIN = Integer.MIN_VALUE;
    private static final int MAX = Integer.MAX_VALUE;
    private static final int INVALID = -1;
    private static final int LIMIT = -3;
    private static final int NOT_FOUND = -4;

    public static void main(String[] args) throws ReflectiveOperationException {
        Due.runAll(ColorsEdgesTest.class);
    }

    private static EnamelKiln withColors(int colors) {
        EnamelKiln x = new EnamelKiln();
        for (int color = 0; color < colors; color++) {
            x.color(700, 800, 100);
        }
        return x;
    }

    private static void color(int melting, int burning, int expansion, int due) {
        Due.is("color(" + melting + ", " + burning + ", " + expansion + ")",
            new EnamelKiln().color(melting, burning, expansion), due);
    }

    private static void info(EnamelKiln x, int color, int what, int due) {
        Due.is("colorInfo(" + color + ", " + what + ")", x.colorInfo(color, what), due);
    }

    /** Promise 1: "Creates a bare plate without colors." */
    static void newPlateIsBareWithoutColors() {
        EnamelKiln x = new EnamelKiln();
        Due.is("colors", x.count(0), 0);
        info(x, 0, 0, INVALID);
        Due.is("put(0, 0)", x.put(0, 0), INVALID);
        Due.is("wish(0, 0)", x.wish(0, 0), INVALID);
        Due.is("counter()", x.counter(), NOT_FOUND);
        for (int field = 0; field <= 6; field++) {
            Due.is("layers of " + field, x.field(field, 0), 0);
            Due.is("a first layer of " + field, x.layer(field, 0, 0), NOT_FOUND);
            Due.is("cracked " + field, x.field(field, 3), field == 6 ? NOT_FOUND : 0);
        }
        for (int what = 1; what <= 7; what++) {
            Due.is("count(" + what + ")", x.count(what), 0);
        }
        for (int what = 11; what <= 22; what++) {
            Due.is("count(" + what + ")", x.count(what), 0);
        }
    }

    /** Promise 1: "Creates a bare plate without colors." (also if another object has some) */
    static void newPlateIsBareBesideAnother() {
        EnamelKiln other = withColors(1);
        other.put(0, 0);
        other.set(0, 5);
        other.wish(0, 0);
        other.type('0');
        EnamelKiln x = new EnamelKiln();
        Due.is("colors", x.count(0), 0);
        Due.is("layers", x.count(1), 0);
        Due.is("time", x.count(8), 3);
        Due.is("wishes", x.count(20), 0);
        Due.is("states", x.count(21), 0);
        Due.is("text", x.count(22), 0);
        x.set(0, 9);
        Due.is("the time of the other one", other.count(8), 5);
        Due.is("its layers", other.count(1), 1);
    }

    /** Promise 2, Colors: "There are at most 12 colors, numbered from 0, with the letters a to l in this order." */
    static void twelveColorsWithLetters() {
        for (int color = 0; color < 12; color++) {
            EnamelKiln x = withColors(12);
            Due.type(x, "0=" + "abcdefghijkl".charAt(color) + ";");
            Due.is("read()", x.read(), 1);
            Due.is("color of the letter " + color, x.wished(0, 0), color);
        }
        EnamelKiln x = withColors(11);
        Due.is("the twelfth", x.color(700, 800, 100), 11);
        Due.is("a thirteenth", x.color(700, 800, 100), LIMIT);
        Due.is("count(0)", x.count(0), 12);
        Due.type(x, "0=m");
        Due.is("the letter m", x.fault(1), 1);
    }

    /**
     * Promise 2, Colors: "A color has a melting heat (600 to 900), a burning heat (10 to 200 above it),
     * and an expansion (60 to 160)."
     */
    static void colorsAtTheEndsOfTheirRanges() {
        EnamelKiln x = new EnamelKiln();
        int[][] colors = {{600, 610, 60}, {600, 800, 160}, {900, 910, 160}, {900, 1100, 60}};
        for (int color = 0; color < 4; color++) {
            int[] c = colors[color];
            Due.is("color " + color, x.color(c[0], c[1], c[2]), color);
        }
        for (int color = 0; color < 4; color++) {
            for (int what = 0; what < 3; what++) {
                info(x, color, what, colors[color][what]);
            }
        }
    }

    /**
     * Promise 3, Colors: "The expansion of the plate is 170; the pull of a layer is 170 minus the
     * expansion of its color."
     */
    static void pullIs170MinusExpansion() {
        EnamelKiln x = new EnamelKiln();
        x.color(600, 700, 60);
        x.color(600, 700, 160);
        info(x, 0, 3, 110);
        info(x, 1, 3, 10);
        x.put(0, 0);
        x.put(1, 1);
        x.fire(600, 3);
        Due.is("pull of a layer of the least expansion", x.field(0, 1), 110);
        Due.is("pull of a layer of the greatest expansion", x.field(1, 1), 10);
    }

    /** Promise 2: "Adds a color." */
    static void colorAddsOne() {
        EnamelKiln x = new EnamelKiln();
        x.color(700, 750, 100);
        x.color(701, 761, 101);
        Due.is("count(0)", x.count(0), 2);
        int[][] due = {{700, 750, 100}, {701, 761, 101}};
        for (int color = 0; color < 2; color++) {
            for (int what = 0; what < 3; what++) {
                info(x, color, what, due[color][what]);
            }
        }
    }

    /** Promise 2: "`melting`: 600 to 900" */
    static void meltingFrom600To900() {
        color(599, 700, 100, INVALID);
        color(600, 700, 100, 0);
        color(900, 1000, 100, 0);
        color(901, 1000, 100, INVALID);
    }

    /** Promise 2: "`burning`: melting plus 10 to melting plus 200" */
    static void burningFrom10To200Above() {
        for (int melting : new int[] {600, 744, 900}) {
            color(melting, melting + 9, 100, INVALID);
            color(melting, melting + 10, 100, 0);
            color(melting, melting + 200, 100, 0);
            color(melting, melting + 201, 100, INVALID);
            color(melting, melting, 100, INVALID);
            color(melting, melting - 10, 100, INVALID);
        }
    }

    /** Promise 2: "`expansion`: 60 to 160" */
    static void expansionFrom60To160() {
        color(700, 800, 59, INVALID);
        color(700, 800, 60, 0);
        color(700, 800, 160, 0);
        color(700, 800, 161, INVALID);
    }

    /** Promise 2: "Returns the number of the color" */
    static void numbersFromNoughtToEleven() {
        EnamelKiln x = new EnamelKiln();
        for (int color = 0; color < 12; color++) {
            Due.is("color " + color, x.color(700, 800, 100), color);
        }
    }

    /** Promise 2: "INVALID_ARGUMENT if an argument is out of range" (far out, and where sums wrap around) */
    static void colorsFarOut() {
        color(MIN, 0, 100, INVALID);
        color(MIN, MIN + 10, 100, INVALID);
        color(MAX, MIN + 50, 100, INVALID);
        color(MAX - 100, MAX, 100, INVALID);
        color(0, 100, 100, INVALID);
        color(-700, -600, 100, INVALID);
        color(700, MIN, 100, INVALID);
        color(700, MAX, 100, INVALID);
        color(700, 800, MIN, INVALID);
        color(700, 800, MAX, INVALID);
        color(700, 800, -100, INVALID);
    }

    /** Promise 2: "LIMIT_REACHED if there are 12" */
    static void noThirteenthColor() {
        EnamelKiln x = withColors(11);
        Due.is("the twelfth", x.color(650, 700, 80), 11);
        for (int again = 0; again < 3; again++) {
            Due.is("a thirteenth", x.color(660, 710, 90), LIMIT);
        }
        Due.is("count(0)", x.count(0), 12);
        info(x, 11, 0, 650);
        x.undo();
        Due.is("a twelfth behind undo", x.color(660, 710, 90), 11);
        Due.is("a thirteenth again", x.color(660, 710, 90), LIMIT);
    }

    /** Promise 3: "`color`: number of the color" */
    static void infoOfColorsThatThereAre() {
        info(new EnamelKiln(), 0, 0, INVALID);
        for (int colors : new int[] {1, 11, 12}) {
            EnamelKiln x = withColors(colors);
            info(x, -1, 0, INVALID);
            info(x, 0, 0, 700);
            info(x, colors - 1, 0, 700);
            info(x, colors, 0, INVALID);
        }
        EnamelKiln x = withColors(2);
        x.undo();
        info(x, 0, 1, 800);
        info(x, 1, 1, INVALID);
    }

    /**
     * Promise 3: "`what`: 0: its melting heat; 1: its burning heat; 2: its expansion; 3: its pull; 4:
     * layers of it on the plate; 5: how often it is in wishes"
     */
    static void infoFromNoughtToFive() {
        EnamelKiln x = withColors(1);
        x.color(601, 611, 61);
        x.put(0, 1);
        x.wish(0, 1);
        x.wish(0, 1);
        int[] due = {INVALID, 601, 611, 61, 109, 1, 2, INVALID};
        for (int what = -1; what <= 6; what++) {
            info(x, 1, what, due[what + 1]);
        }
    }

    /** Promise 3: "4: layers of it on the plate" (none, all 21, raw to burnt ones, the back) */
    static void infoOfLayersFromNoneTo21() {
        EnamelKiln x = withColors(2);
        info(x, 0, 4, 0);
        for (int layer = 0; layer < 3; layer++) {
            for (int field = 0; field <= 6; field++) {
                x.put(field, 0);
                info(x, 0, 4, 7 * layer + field + 1);
            }
            x.fire(660 + 40 * layer, 3);
        }
        info(x, 0, 4, 21);
        info(x, 1, 4, 0);
        x.fire(801, 1);
        info(x, 0, 4, 21);
        x.clean();
        info(x, 0, 4, 0);
        x.put(6, 0);
        info(x, 0, 4, 1);
        x.takeOff(6);
        info(x, 0, 4, 0);
    }

    /** Promise 3: "5: how often it is in wishes" (none, all 18, several in one wish) */
    static void infoOfWishesFromNoneTo18() {
        EnamelKiln x = withColors(2);
        info(x, 1, 5, 0);
        for (int i = 0; i < 18; i++) {
            x.wish(i / 3, 1);
            info(x, 1, 5, i + 1);
        }
        info(x, 0, 5, 0);
        x.wish(5, 1);
        info(x, 1, 5, 18);
        x.wish(5, -1);
        info(x, 1, 5, 15);
        Due.type(x, "0=aba;1=;");
        x.read();
        info(x, 1, 5, 10);
        info(x, 0, 5, 2);
    }

    /** Promise 3: "Returns a property of a color." */
    static void infoChangesNothing() {
        EnamelKiln x = withColors(1);
        EnamelKiln y = withColors(1);
        for (int what = -1; what <= 6; what++) {
            x.colorInfo(0, what);
            x.colorInfo(1, what);
        }
        Due.same("behind colorInfo", x, y);
    }

    /** Promise 3: "Returns the property" */
    static void infoOfEachColorOfItsOwn() {
        EnamelKiln x = new EnamelKiln();
        for (int color = 0; color < 12; color++) {
            x.color(600 + color, 650 + 3 * color, 80 + color);
        }
        for (int color = 0; color < 12; color++) {
            info(x, color, 0, 600 + color);
            info(x, color, 1, 650 + 3 * color);
            info(x, color, 2, 80 + color);
            info(x, color, 3, 90 - color);
        }
    }

    /** Promise 3: "INVALID_ARGUMENT if an argument is out of range" */
    static void infoOutOfRange() {
        EnamelKiln x = withColors(12);
        for (int color : new int[] {MIN, -12, -1, 12, 13, MAX}) {
            info(x, color, 0, INVALID);
            info(x, color, 5, INVALID);
        }
        for (int what : new int[] {MIN, -6, -1, 6, 7, MAX}) {
            info(x, 0, what, INVALID);
            info(x, 11, what, INVALID);
        }
    }
}
