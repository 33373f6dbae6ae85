/** Promises 14 to 18. */
final class PlansTest {
    private static final int MIN = Integer.MIN_VALUE;
    private static final int MAX = Integer.MAX_VALUE;
    private static final int INVALID = EnamelKiln.INVALID_ARGUMENT;
    private static final int LIMIT = EnamelKiln.LIMIT_REACHED;
    private static final int NOT_FOUND = EnamelKiln.NOT_FOUND;

    public static void main(String[] args) {
        promise14Wish();
        promise15Wished();
        promise16LeastFirings();
        promise16NoPlan();
        promise16LongestPlan();
        promise16FollowsChanges();
        promise17Planned();
        promise17LeastSets();
        promise17HeatEdges();
        promise17WrongInputs();
        promise18Counter();
        promise18Ties();
        Due.end();
    }

    private static EnamelKiln withColors(int[]... heats) {
        EnamelKiln x = new EnamelKiln();
        for (int[] heat : heats) {
            x.color(heat[0], heat[1], 100);
        }
        return x;
    }

    private static void wish(EnamelKiln x, int field, int... colors) {
        x.wish(field, -1);
        for (int color : colors) {
            x.wish(field, color);
        }
    }

    private static void plan(String name, EnamelKiln x, int[]... firings) {
        Due.is(name + ": firings", x.leastFirings(), firings.length);
        for (int i = 0; i < firings.length; i++) {
            Due.is(name + ": set " + i, x.planned(i, 0), firings[i][0]);
            Due.is(name + ": heat " + i, x.planned(i, 1), firings[i][1]);
        }
        Due.is(name + ": behind its end", x.planned(firings.length, 0), NOT_FOUND);
    }

    private static void promise14Wish() {
        EnamelKiln x = withColors(new int[] {700, 800}, new int[] {750, 820});
        int[][] wrong = {{-1, 0}, {6, 0}, {MIN, -1}, {MAX, 0}, {0, 2}, {0, -2}, {0, MIN}, {0, MAX}, {6, -1}};
        for (int[] w : wrong) {
            Due.is("wish(" + w[0] + ", " + w[1] + ")", x.wish(w[0], w[1]), INVALID);
        }
        Due.is("wish(5, -1) of an empty one", x.wish(5, -1), 0);
        Due.is("this is a change", x.count(21), 3);
        Due.is("wish(5, 1)", x.wish(5, 1), 1);
        Due.is("wish(5, 0)", x.wish(5, 0), 2);
        Due.is("wish(5, 1) again", x.wish(5, 1), 3);
        Due.is("wish(5, 0) of a full one", x.wish(5, 0), LIMIT);
        Due.is("wish(5, 2) of a full one", x.wish(5, 2), INVALID);
        Due.is("wish(0, 0)", x.wish(0, 0), 1);
        Due.is("wish(5, -1)", x.wish(5, -1), 0);
        Due.is("wish(5, 0) then", x.wish(5, 0), 1);
        Due.is("count(20)", x.count(20), 2);
    }

    private static void promise15Wished() {
        EnamelKiln x = withColors(new int[] {700, 800}, new int[] {750, 820});
        wish(x, 5, 1, 0, 1);
        wish(x, 0, 0);
        Due.is("wished(5, 0)", x.wished(5, 0), 1);
        Due.is("wished(5, 1)", x.wished(5, 1), 0);
        Due.is("wished(5, 2)", x.wished(5, 2), 1);
        Due.is("wished(5, 3)", x.wished(5, 3), NOT_FOUND);
        Due.is("wished(0, 0)", x.wished(0, 0), 0);
        Due.is("wished(0, 1)", x.wished(0, 1), NOT_FOUND);
        Due.is("wished(1, 0)", x.wished(1, 0), NOT_FOUND);
        Due.is("wished(1, MAX)", x.wished(1, MAX), NOT_FOUND);
        Due.is("wished(0, -1)", x.wished(0, -1), INVALID);
        Due.is("wished(0, MIN)", x.wished(0, MIN), INVALID);
        Due.is("wished(6, 0)", x.wished(6, 0), INVALID);
        Due.is("wished(-1, 0)", x.wished(-1, 0), INVALID);
        Due.is("wished(6, -1)", x.wished(6, -1), INVALID);
    }

    private static void promise16LeastFirings() {
        EnamelKiln x = withColors(new int[] {700, 800}, new int[] {750, 820});
        Due.is("no wishes", x.leastFirings(), 0);
        wish(x, 0, 0);
        Due.is("one wish", x.leastFirings(), 1);
        wish(x, 3, 1);
        Due.is("two at one heat", x.leastFirings(), 1);
        wish(x, 3, 1, 0);
        Due.is("a second layer", x.leastFirings(), 2);
        for (int field = 0; field < 6; field++) {
            wish(x, field, 0, 1, 0);
        }
        Due.is("three layers everywhere", x.leastFirings(), 3);
        x.put(0, 0);
        x.fire(1200, 3);
        Due.is("the plate does not matter", x.leastFirings(), 3);
        EnamelKiln y = withColors(new int[] {900, 910}, new int[] {800, 899}, new int[] {700, 799});
        wish(y, 0, 2);
        wish(y, 1, 1);
        wish(y, 2, 0);
        Due.is("one after the other", y.leastFirings(), 3);
        wish(y, 0, 0, 1, 2);
        wish(y, 1, 1, 2);
        wish(y, 2, 2);
        Due.is("each waits for the hotter ones", y.leastFirings(), 3);
    }

    private static void promise16NoPlan() {
        EnamelKiln x = withColors(new int[] {900, 910}, new int[] {700, 800});
        wish(x, 0, 1, 0);
        Due.is("the lower one burns", x.leastFirings(), NOT_FOUND);
        Due.is("planned(0, 0)", x.planned(0, 0), NOT_FOUND);
        Due.is("planned(0, 1)", x.planned(0, 1), NOT_FOUND);
        Due.is("planned(-1, 0)", x.planned(-1, 0), INVALID);
        Due.is("planned(0, 2)", x.planned(0, 2), INVALID);
        wish(x, 0, 0, 1);
        Due.is("hot first", x.leastFirings(), 2);
    }

    private static void promise16LongestPlan() {
        EnamelKiln x = new EnamelKiln();
        int[][] due = new int[18][];
        for (int field = 0; field < 6; field++) {
            x.color(650 + 11 * field, 660 + 11 * field, 100);
            wish(x, field, field, field, field);
            for (int layer = 0; layer < 3; layer++) {
                due[3 * (5 - field) + layer] = new int[] {1 << field, 650 + 11 * field};
            }
        }
        plan("no two colors melt together", x, due);
    }

    private static void promise16FollowsChanges() {
        EnamelKiln x = withColors(new int[] {700, 800});
        wish(x, 0, 0);
        Due.is("one", x.leastFirings(), 1);
        x.wish(0, 0);
        Due.is("two", x.leastFirings(), 2);
        x.undo();
        Due.is("one behind undo", x.leastFirings(), 1);
        Due.type(x, "0=aaa;");
        x.read();
        Due.is("three behind read", x.leastFirings(), 3);
        Due.is("planned(2, 0)", x.planned(2, 0), 1);
        x.undo();
        Due.is("one behind undo of read", x.leastFirings(), 1);
        Due.is("planned(2, 0)", x.planned(2, 0), NOT_FOUND);
        EnamelKiln y = new EnamelKiln();
        y.color(700, 800, 100);
        y.wish(0, 0);
        Due.is("heat of the first color", y.planned(0, 1), 700);
        y.undo();
        y.undo();
        y.color(650, 800, 100);
        Due.is("no wish", y.leastFirings(), 0);
        y.wish(0, 0);
        Due.is("heat of the color in its place", y.planned(0, 1), 650);
    }

    private static void promise17Planned() {
        EnamelKiln x = withColors(new int[] {700, 800}, new int[] {750, 820}, new int[] {810, 900});
        plan("no wishes", x);
        wish(x, 2, 1);
        plan("one", x, new int[] {4, 750});
        wish(x, 5, 0);
        plan("together", x, new int[] {36, 750});
        wish(x, 0, 2);
        plan("hot ones ahead", x, new int[] {1, 810}, new int[] {36, 750});
        wish(x, 0, 2, 0);
        plan("four", x, new int[] {1, 810}, new int[] {37, 750});
    }

    private static void promise17LeastSets() {
        EnamelKiln x = withColors(new int[] {700, 800});
        wish(x, 0, 0, 0);
        wish(x, 1, 0);
        plan("the second field may wait", x, new int[] {1, 700}, new int[] {3, 700});
        wish(x, 0, 0);
        wish(x, 1, 0, 0);
        plan("the first field may wait", x, new int[] {2, 700}, new int[] {3, 700});
        wish(x, 5, 0, 0, 0);
        plan("all wait for the last field", x, new int[] {32, 700}, new int[] {34, 700}, new int[] {35, 700});
        // A set that takes more now can shut out a later firing.
        EnamelKiln y = withColors(new int[] {600, 650}, new int[] {640, 840}, new int[] {800, 900});
        wish(y, 0, 0);
        wish(y, 1, 1, 2);
        plan("the thin one waits", y, new int[] {2, 640}, new int[] {2, 800}, new int[] {1, 600});
    }

    private static void promise17HeatEdges() {
        EnamelKiln x = withColors(new int[] {700, 750}, new int[] {750, 900}, new int[] {751, 900});
        wish(x, 0, 0);
        wish(x, 1, 1);
        plan("melting at the burning heat of the other", x, new int[] {3, 750});
        wish(x, 1, 2);
        plan("melting above it", x, new int[] {2, 751}, new int[] {1, 700});
        wish(x, 0, 0, 1);
        wish(x, 1, -1);
        plan("put earlier, at its burning heat", x, new int[] {1, 700}, new int[] {1, 750});
        wish(x, 0, 0, 2);
        Due.is("put earlier, above it", x.leastFirings(), NOT_FOUND);
    }

    private static void promise17WrongInputs() {
        EnamelKiln x = withColors(new int[] {700, 750});
        wish(x, 0, 0);
        int[][] wrong = {{-1, 0}, {MIN, 0}, {0, -1}, {0, 2}, {0, MIN}, {0, MAX}, {9, 2}};
        for (int[] w : wrong) {
            Due.is("planned(" + w[0] + ", " + w[1] + ")", x.planned(w[0], w[1]), INVALID);
        }
        Due.is("planned(1, 0)", x.planned(1, 0), NOT_FOUND);
        Due.is("planned(MAX, 1)", x.planned(MAX, 1), NOT_FOUND);
    }

    private static void promise18Counter() {
        EnamelKiln x = new EnamelKiln();
        Due.is("counter() without colors", x.counter(), NOT_FOUND);
        x.color(700, 800, 60);
        Due.is("counter() of one color", x.counter(), 0);
        x.color(700, 800, 100);
        x.color(700, 800, 160);
        Due.is("bare: the least pull", x.counter(), 2);
        x.put(0, 0);
        Due.is("raw ones do not pull", x.counter(), 2);
        x.fire(700, 3);
        Due.is("between 0 and 110", x.counter(), 1);
        x.put(0, 0);
        x.fire(700, 3);
        Due.is("between 0 and 220", x.counter(), 0);
        x.put(6, 0);
        x.fire(700, 3);
        Due.is("with 110 on the back", x.counter(), 2);
        x.put(6, 0);
        x.fire(700, 3);
        x.put(6, 2);
        x.fire(700, 3);
        Due.is("without room", x.counter(), 2);
    }

    private static void promise18Ties() {
        EnamelKiln x = new EnamelKiln();
        x.color(700, 800, 70);
        x.color(700, 800, 110);
        x.color(700, 800, 150);
        x.color(700, 800, 150);
        x.color(700, 800, 110);
        for (int field = 0; field < 6; field++) {
            x.put(field, 1);
        }
        x.put(6, 1);
        x.fire(700, 3);
        // 60 in front, 60 on the back: a further one of the pull 20 strains least.
        Due.is("of two the least number", x.counter(), 2);
        x.clean();
        for (int field = 0; field < 6; field++) {
            x.put(field, 1);
        }
        x.fire(700, 3);
        Due.is("exactly balanced, the least number", x.counter(), 1);
        x.undo();
        Due.is("raw again", x.counter(), 2);
    }
}
