/** Promises 4 to 10. */
final class PlateTest {
    private static final int MIN = Integer.MIN_VALUE;
    private static final int MAX = Integer.MAX_VALUE;
    private static final int INVALID = EnamelKiln.INVALID_ARGUMENT;
    private static final int IMPOSSIBLE = EnamelKiln.NOT_POSSIBLE;
    private static final int LIMIT = EnamelKiln.LIMIT_REACHED;
    private static final int NOT_FOUND = EnamelKiln.NOT_FOUND;

    public static void main(String[] args) {
        promise4Put();
        promise5TakeOff();
        promise6Clean();
        promise7Layer();
        promise8Field();
        promise8Heats();
        promise8WrongInputs();
        promise9Set();
        promise10Count();
        promise10States();
        Due.end();
    }

    private static EnamelKiln withColors() {
        EnamelKiln x = new EnamelKiln();
        x.color(700, 800, 100);
        x.color(750, 820, 150);
        x.color(800, 900, 60);
        return x;
    }

    private static void promise4Put() {
        EnamelKiln x = withColors();
        Due.is("put(-1, 0)", x.put(-1, 0), INVALID);
        Due.is("put(7, 0)", x.put(7, 0), INVALID);
        Due.is("put(MIN, 0)", x.put(MIN, 0), INVALID);
        Due.is("put(MAX, 0)", x.put(MAX, 0), INVALID);
        Due.is("put(0, -1)", x.put(0, -1), INVALID);
        Due.is("put(0, 3)", x.put(0, 3), INVALID);
        Due.is("put(0, MAX)", x.put(0, MAX), INVALID);
        Due.is("put(0, 0)", x.put(0, 0), 0);
        Due.is("layer(0, 0, 1)", x.layer(0, 0, 1), 0);
        Due.is("put(0, 1) on a raw one", x.put(0, 1), IMPOSSIBLE);
        Due.is("put(0, 3) on a raw one", x.put(0, 3), INVALID);
        Due.is("put(6, 2) on the back", x.put(6, 2), 0);
        x.fire(660, 1);
        Due.is("put(0, 1) on a grainy one", x.put(0, 1), 1);
        x.fire(720, 3);
        Due.is("put(0, 2) on a grainy and a smooth one", x.put(0, 2), 2);
        Due.is("put(0, 0) on three of which one is raw", x.put(0, 0), IMPOSSIBLE);
        x.fire(1200, 1);
        Due.is("put(0, 0) on three", x.put(0, 0), LIMIT);
        Due.is("put(0, 9) on three", x.put(0, 9), INVALID);
        Due.is("put(6, 0) on a burnt one", x.put(6, 0), 1);
        Due.is("count(13)", x.count(13), 5);
    }

    private static void promise5TakeOff() {
        EnamelKiln x = withColors();
        Due.is("takeOff(-1)", x.takeOff(-1), INVALID);
        Due.is("takeOff(7)", x.takeOff(7), INVALID);
        Due.is("takeOff(MAX)", x.takeOff(MAX), INVALID);
        Due.is("takeOff(0) of an empty field", x.takeOff(0), IMPOSSIBLE);
        x.put(0, 1);
        Due.is("takeOff(0)", x.takeOff(0), 1);
        Due.is("field(0, 0)", x.field(0, 0), 0);
        Due.is("count(14)", x.count(14), 1);
        x.put(6, 2);
        Due.is("takeOff(6) of the back", x.takeOff(6), 2);
        x.put(0, 0);
        x.fire(660, 1);
        Due.is("takeOff(0) of a grainy one", x.takeOff(0), IMPOSSIBLE);
        x.put(0, 2);
        Due.is("takeOff(0) above a grainy one", x.takeOff(0), 2);
        x.fire(700, 3);
        Due.is("takeOff(0) of a smooth one", x.takeOff(0), IMPOSSIBLE);
        Due.is("takeOff(0) once more", x.takeOff(0), IMPOSSIBLE);
        Due.is("count(14) in the end", x.count(14), 3);
        Due.is("count(1)", x.count(1), 1);
    }

    private static void promise6Clean() {
        EnamelKiln x = withColors();
        Due.is("clean() of a bare plate", x.clean(), 0);
        Due.is("count(21)", x.count(21), 4);
        x.set(2, 0);
        x.put(0, 0);
        x.put(6, 1);
        x.put(1, 1);
        x.takeOff(1);
        x.fire(750, 3);
        x.put(0, 2);
        x.wish(0, 1);
        Due.is("field(0, 3)", x.field(0, 3), 1);
        Due.is("clean()", x.clean(), 3);
        Due.is("field(0, 3) behind it", x.field(0, 3), 0);
        Due.is("field(0, 0)", x.field(0, 0), 0);
        Due.is("field(6, 0)", x.field(6, 0), 0);
        Due.is("field(6, 1)", x.field(6, 1), 0);
        Due.is("count(1)", x.count(1), 0);
        Due.is("count(7)", x.count(7), 0);
        int[] accounts = {1, 3, 0, 0, 2, 0, 0, 1, 0};
        for (int i = 0; i < accounts.length; i++) {
            Due.is("account " + i, x.count(11 + i), accounts[i]);
        }
        Due.is("settings stay", x.count(10), 0);
        Due.is("wishes stay", x.count(20), 1);
        Due.is("colors stay", x.count(0), 3);
        Due.is("put behind clean", x.put(0, 0), 0);
        Due.is("layer(0, 0, 1)", x.layer(0, 0, 1), 0);
    }

    private static void promise7Layer() {
        EnamelKiln x = withColors();
        x.put(4, 0);
        x.fire(700, 3);
        x.fire(680, 1);
        x.put(4, 2);
        int[][] due = {{0, 2, 1}, {2, 0, 0}};
        for (int layer = 0; layer < 2; layer++) {
            for (int what = 0; what < 3; what++) {
                Due.is("layer(4, " + layer + ", " + what + ")", x.layer(4, layer, what), due[layer][what]);
            }
        }
        Due.is("layer(4, 2, 0)", x.layer(4, 2, 0), NOT_FOUND);
        Due.is("layer(4, 3, 0)", x.layer(4, 3, 0), NOT_FOUND);
        Due.is("layer(6, MAX, 2)", x.layer(6, MAX, 2), NOT_FOUND);
        Due.is("layer(4, -1, 0)", x.layer(4, -1, 0), INVALID);
        Due.is("layer(4, MIN, 0)", x.layer(4, MIN, 0), INVALID);
        Due.is("layer(4, 0, 3)", x.layer(4, 0, 3), INVALID);
        Due.is("layer(4, 0, -1)", x.layer(4, 0, -1), INVALID);
        Due.is("layer(4, 9, 3)", x.layer(4, 9, 3), INVALID);
        Due.is("layer(7, 0, 0)", x.layer(7, 0, 0), INVALID);
        Due.is("layer(-1, 0, 0)", x.layer(-1, 0, 0), INVALID);
    }

    private static void promise8Field() {
        EnamelKiln x = withColors();
        x.put(0, 0);
        x.put(6, 2);
        Due.is("pull of a raw layer", x.field(0, 1), 0);
        x.fire(660, 1);
        Due.is("pull of a grainy layer", x.field(0, 1), 0);
        x.fire(700, 3);
        Due.is("pull of a smooth layer", x.field(0, 1), 70);
        Due.is("strain", x.field(0, 2), 70);
        Due.is("strain of a field without layers", x.field(1, 2), 0);
        x.put(0, 1);
        x.fire(800, 3);
        Due.is("pull of two", x.field(0, 1), 90);
        Due.is("pull of the back", x.field(6, 1), 110);
        Due.is("strain against the back", x.field(0, 2), 20);
        Due.is("strain of an empty one against the back", x.field(5, 2), 110);
        Due.is("layers", x.field(0, 0), 2);
        Due.is("not cracked", x.field(0, 3), 0);
        x.set(1, 0);
        x.fire(730, 1);
        Due.is("a dull one", x.layer(0, 0, 1), 3);
        Due.is("pull of a dull and a smooth one", x.field(0, 1), 90);
        x.fire(810, 1);
        Due.is("pull of a burnt and a dull one", x.field(0, 1), 20);
        Due.is("strain with a burnt one", x.field(0, 2), 90);
        x.set(2, 10);
        Due.is("a setting alone does not crack", x.field(0, 3), 0);
        x.fire(500, 1);
        Due.is("cracked", x.field(0, 3), 1);
        Due.is("one without layers does not crack", x.field(1, 3), 0);
    }

    private static void promise8Heats() {
        EnamelKiln x = withColors();
        Due.is("field(0, 4) without layers", x.field(0, 4), NOT_FOUND);
        Due.is("field(0, 5) without layers", x.field(0, 5), NOT_FOUND);
        x.put(6, 2);
        Due.is("field(6, 4)", x.field(6, 4), 800);
        Due.is("field(6, 5)", x.field(6, 5), 900);
        x.fire(760, 3);
        x.put(6, 0);
        Due.is("field(6, 4) of two", x.field(6, 4), 800);
        Due.is("field(6, 5) of two", x.field(6, 5), 800);
        x.fire(801, 3);
        Due.is("the thinner one burns", x.layer(6, 1, 1), 4);
        Due.is("field(6, 4) with a burnt one", x.field(6, 4), 800);
        Due.is("field(6, 5) with a burnt one", x.field(6, 5), 900);
        x.put(6, 1);
        Due.is("field(6, 5) of three", x.field(6, 5), 820);
        x.fire(901, 3);
        Due.is("field(6, 5) of burnt ones", x.field(6, 5), NOT_FOUND);
        Due.is("field(6, 4) of burnt ones", x.field(6, 4), 800);
    }

    private static void promise8WrongInputs() {
        EnamelKiln x = withColors();
        x.put(6, 0);
        x.fire(700, 3);
        Due.is("field(6, 2)", x.field(6, 2), NOT_FOUND);
        Due.is("field(6, 3)", x.field(6, 3), NOT_FOUND);
        int[][] wrong = {{-1, 0}, {7, 0}, {MIN, 0}, {MAX, 2}, {0, -1}, {0, 6}, {6, 6}, {0, MIN}, {6, MAX}};
        for (int[] w : wrong) {
            Due.is("field(" + w[0] + ", " + w[1] + ")", x.field(w[0], w[1]), INVALID);
        }
    }

    private static void promise9Set() {
        EnamelKiln x = new EnamelKiln();
        int[] first = {3, 2, 120};
        int[] least = {1, 0, 0};
        int[] greatest = {10, 5, 400};
        for (int what = 0; what < 3; what++) {
            Due.is("too small " + what, x.set(what, least[what] - 1), INVALID);
            Due.is("too great " + what, x.set(what, greatest[what] + 1), INVALID);
            Due.is("MIN " + what, x.set(what, MIN), INVALID);
            Due.is("MAX " + what, x.set(what, MAX), INVALID);
            Due.is("to the least " + what, x.set(what, least[what]), first[what]);
            Due.is("to the greatest " + what, x.set(what, greatest[what]), least[what]);
            Due.is("the same " + what, x.set(what, greatest[what]), greatest[what]);
            Due.is("count " + what, x.count(8 + what), greatest[what]);
        }
        Due.is("set(-1, 1)", x.set(-1, 1), INVALID);
        Due.is("set(3, 1)", x.set(3, 1), INVALID);
        Due.is("set(MIN, 1)", x.set(MIN, 1), INVALID);
        Due.is("set(MAX, 1)", x.set(MAX, 1), INVALID);
    }

    private static void promise10Count() {
        EnamelKiln x = withColors();
        Due.is("count(-1)", x.count(-1), INVALID);
        Due.is("count(23)", x.count(23), INVALID);
        Due.is("count(MIN)", x.count(MIN), INVALID);
        Due.is("count(MAX)", x.count(MAX), INVALID);
        Due.is("count(0)", x.count(0), 3);
        Due.is("count(21)", x.count(21), 3);
        x.wish(0, 0);
        x.wish(0, 1);
        x.wish(5, 1);
        Due.is("count(20)", x.count(20), 3);
        Due.is("count(21) at most", x.count(21), 4);
        Due.type(x, "0=a;");
        Due.is("count(22)", x.count(22), 4);
    }

    private static void promise10States() {
        EnamelKiln x = withColors();
        x.set(1, 1);
        x.set(2, 60);
        x.put(0, 0);
        x.put(1, 0);
        x.put(2, 0);
        x.put(6, 2);
        x.takeOff(2);
        x.fire(720, 4);
        x.put(0, 1);
        x.put(1, 1);
        x.fire(710, 7);
        x.fire(700, 1);
        x.put(2, 2);
        x.put(3, 2);
        x.fire(810, 3);
        x.put(3, 0);
        x.fire(500, 1);
        int[] due = {3, 8, 1, 0, 5, 0, 2, 2, 3, 1, 60, 5, 16, 9, 1, 7, 2, 2, 2, 0, 0, 4, 0};
        for (int what = 0; what < due.length; what++) {
            Due.is("count(" + what + ")", x.count(what), due[what]);
        }
    }
}
