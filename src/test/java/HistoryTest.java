/** Promise 19, and which calls are changes. */
final class HistoryTest {
    public static void main(String[] args) {
        promise19EachChange();
        promise19NoChanges();
        promise19Depth();
        promise19TextStays();
        promise19EverythingElse();
        Due.end();
    }

    private static EnamelKiln withColor() {
        EnamelKiln x = new EnamelKiln();
        x.color(700, 800, 100);
        return x;
    }

    private static void promise19EachChange() {
        EnamelKiln x = withColor();
        Due.is("color", x.count(21), 1);
        x.put(0, 0);
        Due.is("put", x.count(21), 2);
        x.takeOff(0);
        Due.is("takeOff", x.count(21), 3);
        x.undo();
        Due.is("undo", x.count(21), 2);
        x.undo();
        x.fire(700, 3);
        Due.is("fire", x.count(21), 2);
        x.set(0, 3);
        Due.is("set to the same", x.count(21), 3);
        x.undo();
        x.clean();
        Due.is("clean of a bare plate", x.count(21), 3);
        x.undo();
        x.wish(0, -1);
        Due.is("wish", x.count(21), 3);
        x.undo();
        x.read();
        Due.is("read of an empty text", x.count(21), 3);
    }

    private static void promise19NoChanges() {
        EnamelKiln x = withColor();
        x.type('0');
        x.read();
        x.clearText();
        x.color(0, 0, 0);
        x.colorInfo(0, 0);
        x.put(9, 0);
        x.takeOff(0);
        x.layer(0, 0, 0);
        x.field(0, 0);
        x.set(0, 0);
        x.count(0);
        x.fire(0, 0);
        x.ifFired(700, 0);
        x.bestHeat();
        x.wish(0, 7);
        x.wished(0, 0);
        x.leastFirings();
        x.planned(0, 0);
        x.counter();
        x.fault(0);
        Due.is("no change", x.count(21), 1);
        x.put(0, 0);
        x.put(0, 0);
        Due.is("a put that is not possible", x.count(21), 2);
    }

    private static void promise19Depth() {
        EnamelKiln x = new EnamelKiln();
        Due.is("undo() of nothing", x.undo(), EnamelKiln.NOT_POSSIBLE);
        for (int value = 1; value <= 9; value++) {
            x.set(0, value);
        }
        Due.is("count(21)", x.count(21), 4);
        for (int left = 3; left >= 0; left--) {
            Due.is("undo()", x.undo(), left);
            Due.is("the setting then", x.count(8), 5 + left);
        }
        Due.is("undo() of no more", x.undo(), EnamelKiln.NOT_POSSIBLE);
        Due.is("the setting then", x.count(8), 5);
        x.set(0, 10);
        x.set(0, 9);
        Due.is("undo() again", x.undo(), 1);
        Due.is("the setting then", x.count(8), 10);
        x.set(0, 8);
        Due.is("undo() of the newer one", x.undo(), 1);
        Due.is("the setting then", x.count(8), 10);
        Due.is("undo() of the older one", x.undo(), 0);
        Due.is("the setting then", x.count(8), 5);
    }

    private static void promise19TextStays() {
        EnamelKiln x = withColor();
        Due.type(x, "0=a;");
        x.read();
        x.type('1');
        x.undo();
        Due.is("the text stays", x.count(22), 5);
        Due.is("the wish does not", x.count(20), 0);
        x.undo();
        Due.is("a color less makes a fault", x.fault(0), 2);
        Due.is("of no such color", x.fault(1), 2);
        x.clearText();
        Due.is("an empty text is no state", x.undo(), EnamelKiln.NOT_POSSIBLE);
    }

    private static int[] all(EnamelKiln x) {
        int[] seen = new int[400];
        int n = 0;
        for (int what = 0; what < 21; what++) {
            seen[n++] = x.count(what);
        }
        for (int color = 0; color < 3; color++) {
            for (int what = 0; what < 6; what++) {
                seen[n++] = x.colorInfo(color, what);
            }
        }
        for (int field = 0; field < 7; field++) {
            for (int what = 0; what < 6; what++) {
                seen[n++] = x.field(field, what);
            }
            for (int layer = 0; layer < 3; layer++) {
                for (int what = 0; what < 3; what++) {
                    seen[n++] = x.layer(field, layer, what);
                }
                seen[n++] = x.wished(field, layer);
            }
        }
        seen[n++] = x.leastFirings();
        seen[n++] = x.planned(0, 0);
        seen[n] = x.counter();
        return seen;
    }

    private static EnamelKiln worked() {
        EnamelKiln x = withColor();
        x.color(760, 780, 60);
        x.set(1, 0);
        x.set(2, 30);
        x.put(0, 0);
        x.put(6, 1);
        x.fire(700, 3);
        x.put(0, 1);
        x.wish(3, 1);
        Due.type(x, "3=;1=ab;");
        return x;
    }

    private static int change(EnamelKiln x, int number) {
        return switch (number) {
            case 0 -> x.color(800, 900, 70);
            case 1 -> x.put(4, 1);
            case 2 -> x.takeOff(0);
            case 3 -> x.fire(760, 4);
            case 4 -> x.fire(781, 4);
            case 5 -> x.set(2, 400);
            case 6 -> x.clean();
            case 7 -> x.wish(3, 0);
            case 8 -> x.wish(3, -1);
            default -> x.read();
        };
    }

    private static void promise19EverythingElse() {
        for (int number = 0; number < 10; number++) {
            EnamelKiln x = worked();
            int[] before = all(x);
            Due.is("no error of change " + number, change(x, number) >= 0 ? 1 : 0, 1);
            x.undo();
            int[] after = all(x);
            for (int i = 0; i < after.length; i++) {
                Due.is("undo of change " + number + ", " + i, after[i], before[i]);
            }
        }
    }
}
