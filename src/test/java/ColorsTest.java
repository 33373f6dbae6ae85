/** Promises 1 to 3. */
final class ColorsTest {
    private static final int MIN = Integer.MIN_VALUE;
    private static final int MAX = Integer.MAX_VALUE;

    public static void main(String[] args) {
        promise1NewObject();
        promise2Color();
        promise2WrongInputs();
        promise2Limit();
        promise3ColorInfo();
        promise3LayersAndWishes();
        promise3WrongInputs();
        Due.end();
    }

    private static void promise1NewObject() {
        EnamelKiln x = new EnamelKiln();
        int[] due = {0, 0, 0, 0, 0, 0, 0, 0, 3, 2, 120, 0, 0, 0, 0, 0, 0, 0, 0, 0, 0, 0, 0};
        for (int what = 0; what < due.length; what++) {
            Due.is("count(" + what + ")", x.count(what), due[what]);
        }
        for (int field = 0; field <= 6; field++) {
            Due.is("field(" + field + ", 0)", x.field(field, 0), 0);
            Due.is("layer(" + field + ", 0, 0)", x.layer(field, 0, 0), EnamelKiln.NOT_FOUND);
        }
        for (int field = 0; field <= 5; field++) {
            Due.is("field(" + field + ", 3)", x.field(field, 3), 0);
            Due.is("wished(" + field + ", 0)", x.wished(field, 0), EnamelKiln.NOT_FOUND);
        }
        Due.is("colorInfo(0, 0)", x.colorInfo(0, 0), EnamelKiln.INVALID_ARGUMENT);
        Due.is("undo()", x.undo(), EnamelKiln.NOT_POSSIBLE);
        Due.is("fault(0)", x.fault(0), EnamelKiln.NOT_FOUND);
        Due.is("counter()", x.counter(), EnamelKiln.NOT_FOUND);
        Due.is("leastFirings()", x.leastFirings(), 0);
        Due.is("bestHeat()", x.bestHeat(), 500);
        EnamelKiln other = new EnamelKiln();
        other.color(700, 750, 100);
        Due.is("another object has its own colors", x.count(0), 0);
    }

    private static void promise2Color() {
        EnamelKiln x = new EnamelKiln();
        Due.is("color(600, 610, 60)", x.color(600, 610, 60), 0);
        Due.is("color(900, 1100, 160)", x.color(900, 1100, 160), 1);
        Due.is("color(600, 800, 100)", x.color(600, 800, 100), 2);
        Due.is("color(900, 910, 100)", x.color(900, 910, 100), 3);
        Due.is("the same color again", x.color(900, 910, 100), 4);
        Due.is("count(0)", x.count(0), 5);
        Due.is("count(21)", x.count(21), 4);
    }

    private static void promise2WrongInputs() {
        EnamelKiln x = new EnamelKiln();
        int[][] wrong = {
            {599, 700, 100}, {901, 950, 100}, {700, 709, 100}, {700, 901, 100},
            {700, 750, 59}, {700, 750, 161}, {MIN, 0, 100}, {MAX, MIN + 20, 100},
            {MAX - 5, MAX, 100}, {700, MIN, 100}, {700, MAX, 100}, {700, 750, MIN}, {700, 750, MAX},
        };
        for (int[] w : wrong) {
            Due.is("color(" + w[0] + ", " + w[1] + ", " + w[2] + ")", x.color(w[0], w[1], w[2]),
                EnamelKiln.INVALID_ARGUMENT);
        }
        Due.is("count(0)", x.count(0), 0);
        Due.is("count(21)", x.count(21), 0);
    }

    private static void promise2Limit() {
        EnamelKiln x = new EnamelKiln();
        for (int color = 0; color < 12; color++) {
            Due.is("color " + color, x.color(700 + color, 750 + color, 100 + color), color);
        }
        Due.is("the 13th color", x.color(700, 750, 100), EnamelKiln.LIMIT_REACHED);
        Due.is("a wrong 13th color", x.color(700, 750, 200), EnamelKiln.INVALID_ARGUMENT);
        Due.is("count(0)", x.count(0), 12);
        for (int color = 0; color < 12; color++) {
            Due.is("colorInfo(" + color + ", 0)", x.colorInfo(color, 0), 700 + color);
        }
    }

    private static void promise3ColorInfo() {
        EnamelKiln x = new EnamelKiln();
        x.color(700, 750, 60);
        x.color(810, 960, 160);
        int[][] due = {{700, 750, 60, 110, 0, 0}, {810, 960, 160, 10, 0, 0}};
        for (int color = 0; color < 2; color++) {
            for (int what = 0; what < 6; what++) {
                Due.is("colorInfo(" + color + ", " + what + ")", x.colorInfo(color, what), due[color][what]);
            }
        }
    }

    private static void promise3LayersAndWishes() {
        EnamelKiln x = new EnamelKiln();
        x.color(700, 750, 100);
        x.color(710, 760, 100);
        x.put(0, 0);
        x.put(6, 0);
        x.put(3, 1);
        Due.is("colorInfo(0, 4) with one on the back", x.colorInfo(0, 4), 2);
        x.fire(1200, 1);
        Due.is("colorInfo(0, 4) of burnt ones", x.colorInfo(0, 4), 2);
        x.put(0, 1);
        Due.is("colorInfo(1, 4)", x.colorInfo(1, 4), 2);
        x.takeOff(0);
        Due.is("colorInfo(1, 4) behind takeOff", x.colorInfo(1, 4), 1);
        x.wish(0, 0);
        x.wish(0, 0);
        x.wish(5, 0);
        x.wish(5, 1);
        Due.is("colorInfo(0, 5)", x.colorInfo(0, 5), 3);
        Due.is("colorInfo(1, 5)", x.colorInfo(1, 5), 1);
        x.wish(0, -1);
        Due.is("colorInfo(0, 5) without the wish of 0", x.colorInfo(0, 5), 1);
        x.clean();
        Due.is("colorInfo(0, 4) behind clean", x.colorInfo(0, 4), 0);
        Due.is("colorInfo(0, 5) behind clean", x.colorInfo(0, 5), 1);
    }

    private static void promise3WrongInputs() {
        EnamelKiln x = new EnamelKiln();
        x.color(700, 750, 100);
        int[][] wrong = {{-1, 0}, {1, 0}, {MIN, 0}, {MAX, 0}, {0, -1}, {0, 6}, {0, MIN}, {0, MAX}, {1, 9}};
        for (int[] w : wrong) {
            Due.is("colorInfo(" + w[0] + ", " + w[1] + ")", x.colorInfo(w[0], w[1]),
                EnamelKiln.INVALID_ARGUMENT);
        }
    }
}
