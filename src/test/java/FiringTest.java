/** Promises 11 to 13. */
final class FiringTest {
    private static final int MIN = Integer.MIN_VALUE;
    private static final int MAX = Integer.MAX_VALUE;
    private static final int INVALID = EnamelKiln.INVALID_ARGUMENT;
    private static final int RAW = 0;
    private static final int GRAINY = 1;
    private static final int SMOOTH = 2;
    private static final int DULL = 3;
    private static final int BURNT = 4;

    public static void main(String[] args) {
        promise11Melting();
        promise11Softening();
        promise11Burning();
        promise11Cracks();
        promise11Mending();
        promise11MendedAgainstSofteningBack();
        promise11WrongInputs();
        promise12IfFired();
        promise12ChangesNothing();
        promise12WrongInputs();
        promise13BestHeat();
        promise13Ties();
        Due.end();
    }

    private static void state(EnamelKiln x, String when, int field, int layer, int due) {
        Due.is("state of " + field + ", " + layer + " " + when, x.layer(field, layer, 1), due);
    }

    /** The state of one layer of melting 700 and burning 800 after these firings (heat, minutes). */
    private static void fired(int due, int... firings) {
        EnamelKiln x = new EnamelKiln();
        x.color(700, 800, 160);
        x.put(0, 0);
        for (int i = 0; i < firings.length; i += 2) {
            x.fire(firings[i], firings[i + 1]);
        }
        state(x, "fired " + java.util.Arrays.toString(firings), 0, 0, due);
    }

    private static void promise11Melting() {
        fired(RAW, 659, 20);
        fired(GRAINY, 660, 1);
        fired(GRAINY, 699, 20);
        fired(GRAINY, 700, 2);
        fired(SMOOTH, 700, 3);
        fired(SMOOTH, 800, 20);
        fired(GRAINY, 660, 1, 500, 20);
        fired(GRAINY, 660, 1, 680, 3);
        fired(SMOOTH, 660, 1, 700, 3);
        fired(GRAINY, 800, 2, 700, 2);
        EnamelKiln x = new EnamelKiln();
        x.color(700, 800, 160);
        x.color(720, 800, 160);
        x.put(0, 0);
        x.put(1, 0);
        x.put(6, 1);
        Due.is("fire(700, 3)", x.fire(700, 3), 2);
        Due.is("fire(719, 3)", x.fire(719, 3), 0);
        Due.is("fire(720, 3)", x.fire(720, 3), 1);
        x.set(0, 10);
        x.put(0, 0);
        Due.is("fire(700, 9) for ten", x.fire(700, 9), 0);
        Due.is("fire(700, 10) for ten", x.fire(700, 10), 1);
        x.set(0, 1);
        x.put(1, 0);
        Due.is("fire(700, 1) for one", x.fire(700, 1), 1);
        Due.is("firings", x.count(11), 6);
        Due.is("minutes", x.count(12), 29);
        Due.is("became smooth", x.count(15), 5);
    }

    private static void promise11Softening() {
        EnamelKiln x = new EnamelKiln();
        x.color(700, 800, 160);
        x.put(0, 0);
        x.fire(700, 3);
        Due.is("no softening with melting", x.layer(0, 0, 2), 0);
        x.fire(679, 20);
        Due.is("no softening at 679", x.layer(0, 0, 2), 0);
        x.fire(680, 1);
        Due.is("softened at 680", x.layer(0, 0, 2), 1);
        x.fire(800, 20);
        Due.is("softened at 800", x.layer(0, 0, 2), 2);
        state(x, "softened twice", 0, 0, SMOOTH);
        Due.is("fire", x.fire(700, 3), 0);
        state(x, "softened thrice", 0, 0, DULL);
        x.fire(700, 3);
        Due.is("a dull one softens", x.layer(0, 0, 2), 4);
        state(x, "softened four times", 0, 0, DULL);
        Due.is("became dull once", x.count(16), 1);
        x.set(1, 5);
        x.fire(700, 3);
        state(x, "dull with a greater setting", 0, 0, DULL);
        x.clean();
        x.set(1, 1);
        x.put(0, 0);
        x.fire(700, 3);
        x.fire(700, 3);
        x.set(1, 0);
        x.fire(500, 3);
        state(x, "with a lower setting, not softened", 0, 0, SMOOTH);
        x.fire(680, 3);
        state(x, "with a lower setting, softened", 0, 0, DULL);
        Due.is("became dull twice", x.count(16), 2);
    }

    private static void promise11Burning() {
        fired(BURNT, 801, 1);
        fired(BURNT, 1200, 1, 700, 3);
        fired(BURNT, 660, 1, 801, 20);
        fired(BURNT, 700, 3, 801, 1);
        fired(SMOOTH, 700, 3, 800, 20);
        EnamelKiln x = new EnamelKiln();
        x.color(700, 800, 160);
        x.set(1, 0);
        x.put(0, 0);
        x.fire(700, 3);
        x.fire(700, 3);
        x.put(0, 0);
        Due.is("fire(801, 3)", x.fire(801, 3), 0);
        state(x, "dull, then burnt", 0, 0, BURNT);
        state(x, "raw, then burnt", 0, 1, BURNT);
        Due.is("softenings stay", x.layer(0, 0, 2), 1);
        x.fire(801, 3);
        Due.is("softenings of a burnt one", x.layer(0, 0, 2), 1);
        Due.is("burnt", x.count(17), 2);
    }

    private static void promise11Cracks() {
        EnamelKiln x = new EnamelKiln();
        x.color(700, 800, 70);
        x.color(600, 620, 110);
        x.set(2, 100);
        x.put(0, 0);
        x.put(6, 1);
        x.fire(700, 3);
        Due.is("strain 100 of 100", x.field(0, 3), 0);
        x.set(2, 99);
        x.fire(500, 1);
        Due.is("strain 100 of 99", x.field(0, 3), 1);
        Due.is("cracks", x.count(18), 1);
        x.fire(500, 1);
        Due.is("a cracked one cracks no more", x.count(18), 1);
        x.clean();
        x.put(0, 0);
        x.put(6, 0);
        x.put(1, 1);
        x.fire(660, 3);
        Due.is("none cracks with grains", x.count(7), 0);
        x.fire(700, 3);
        Due.is("one balanced, one burnt, others bare", x.count(7), 0);
        x.put(2, 1);
        x.set(2, 39);
        x.fire(600, 3);
        Due.is("one against a stronger back", x.field(2, 3), 1);
        Due.is("cracks", x.count(18), 2);
    }

    private static void promise11Mending() {
        EnamelKiln x = new EnamelKiln();
        x.color(700, 800, 100);
        x.color(760, 900, 100);
        x.set(2, 60);
        x.put(0, 0);
        x.fire(700, 3);
        Due.is("cracked", x.field(0, 3), 1);
        x.set(2, 400);
        x.put(0, 1);
        x.fire(700, 3);
        Due.is("not mended with a raw one", x.field(0, 3), 1);
        x.fire(720, 3);
        Due.is("not mended with a grainy one", x.field(0, 3), 1);
        x.fire(679, 3);
        Due.is("not mended without heat", x.count(19), 0);
        x.set(1, 0);
        x.fire(760, 3);
        Due.is("mended by one that melts and one that dulls", x.field(0, 3), 0);
        Due.is("mended", x.count(19), 1);
        state(x, "mended", 0, 0, DULL);
        x.set(2, 60);
        x.fire(740, 3);
        Due.is("cracked again", x.field(0, 3), 1);
        x.fire(740, 3);
        Due.is("mended and cracked by one firing", x.count(19), 2);
        Due.is("cracks", x.count(18), 3);
        x.set(2, 400);
        x.fire(739, 3);
        Due.is("not mended if one does not soften", x.field(0, 3), 1);
        x.fire(801, 3);
        Due.is("not mended if one burns", x.field(0, 3), 1);
        x.fire(801, 3);
        Due.is("not mended if one is burnt", x.field(0, 3), 1);
        Due.is("mended in the end", x.count(19), 2);
    }

    private static void promise11MendedAgainstSofteningBack() {
        EnamelKiln x = new EnamelKiln();
        x.color(700, 800, 100);
        x.set(2, 60);
        x.put(0, 0);
        x.fire(700, 3);
        x.put(6, 0);
        x.fire(700, 3);
        Due.is("mended by softening, kept by the back", x.field(0, 3), 0);
        Due.is("the back never cracks", x.count(7), 0);
    }

    private static void promise11WrongInputs() {
        EnamelKiln x = new EnamelKiln();
        int[][] wrong = {{499, 3}, {1201, 3}, {700, 0}, {700, 21}, {MIN, 3}, {MAX, 3}, {700, MIN}, {700, MAX}};
        for (int[] w : wrong) {
            Due.is("fire(" + w[0] + ", " + w[1] + ")", x.fire(w[0], w[1]), INVALID);
        }
        Due.is("firings", x.count(11), 0);
        Due.is("fire(500, 1) of a bare plate", x.fire(500, 1), 0);
        Due.is("fire(1200, 20)", x.fire(1200, 20), 0);
        Due.is("firings", x.count(11), 2);
        Due.is("minutes", x.count(12), 21);
    }

    private static EnamelKiln mixed() {
        EnamelKiln x = new EnamelKiln();
        x.color(700, 800, 100);
        x.color(760, 780, 60);
        x.set(1, 0);
        x.set(2, 60);
        x.put(0, 0);
        x.put(1, 0);
        x.fire(700, 3);
        x.put(1, 1);
        x.put(2, 1);
        x.put(6, 1);
        return x;
    }

    private static void promise12IfFired() {
        int[][] due = {
            {500, 0, 0, 0, 0, 0},
            {680, 0, 0, 2, 1, 1},
            {759, 0, 0, 2, 1, 1},
            {760, 3, 0, 2, 1, 2},
            {781, 0, 3, 2, 1, 1},
            {801, 0, 5, 0, 0, 0},
        };
        for (int[] d : due) {
            EnamelKiln x = mixed();
            for (int what = 0; what < 5; what++) {
                Due.is("ifFired(" + d[0] + ", " + what + ")", x.ifFired(d[0], what), d[what + 1]);
            }
            int[] before = {x.count(15), x.count(17), x.count(16), x.count(18), x.count(19)};
            x.fire(d[0], 3);
            int[] after = {x.count(15), x.count(17), x.count(16), x.count(18), x.count(19)};
            for (int what = 0; what < 5; what++) {
                Due.is("as fired " + d[0] + ", " + what, after[what] - before[what], d[what + 1]);
            }
        }
        EnamelKiln x = mixed();
        x.set(0, 10);
        Due.is("ifFired takes the setting time", x.ifFired(760, 0), 3);
    }

    private static void promise12ChangesNothing() {
        EnamelKiln x = mixed();
        int[] before = new int[23];
        for (int what = 0; what < 23; what++) {
            before[what] = x.count(what);
        }
        x.ifFired(1200, 1);
        x.ifFired(760, 4);
        x.bestHeat();
        for (int what = 0; what < 23; what++) {
            Due.is("count(" + what + ") behind ifFired", x.count(what), before[what]);
        }
        state(x, "behind ifFired", 1, 0, SMOOTH);
        Due.is("softenings behind ifFired", x.layer(1, 0, 2), 0);
    }

    private static void promise12WrongInputs() {
        EnamelKiln x = mixed();
        int[][] wrong = {{499, 0}, {1201, 0}, {700, -1}, {700, 5}, {MIN, 0}, {MAX, 0}, {700, MIN}, {700, MAX}};
        for (int[] w : wrong) {
            Due.is("ifFired(" + w[0] + ", " + w[1] + ")", x.ifFired(w[0], w[1]), INVALID);
        }
    }

    private static void promise13BestHeat() {
        EnamelKiln x = new EnamelKiln();
        x.color(700, 720, 100);
        x.color(710, 900, 100);
        x.color(730, 900, 100);
        x.color(650, 850, 100);
        Due.is("bestHeat() without layers", x.bestHeat(), 500);
        x.put(0, 1);
        Due.is("one color", x.bestHeat(), 710);
        x.put(1, 2);
        Due.is("two colors", x.bestHeat(), 730);
        x.put(2, 0);
        Due.is("the burning one keeps below 721", x.bestHeat(), 710);
        x.put(3, 0);
        x.put(4, 3);
        Due.is("as many as melt", x.bestHeat(), 710);
        x.set(0, 10);
        Due.is("with the setting time", x.bestHeat(), 710);
        x.fire(721, 10);
        Due.is("burnt ones do not matter", x.bestHeat(), 730);
        x.fire(730, 10);
        Due.is("all smooth", x.bestHeat(), 500);
        Due.is("nothing has changed", x.count(11), 2);
    }

    private static void promise13Ties() {
        EnamelKiln x = new EnamelKiln();
        x.color(600, 700, 100);
        x.color(680, 780, 100);
        x.color(720, 800, 100);
        x.set(1, 0);
        x.put(0, 1);
        x.fire(680, 3);
        x.put(1, 0);
        Due.is("the least heat of those that melt one", x.bestHeat(), 600);
        x.put(2, 2);
        x.put(3, 0);
        Due.is("two of 600 rather than one of 720", x.bestHeat(), 600);
        x.takeOff(3);
        Due.is("fewest dull before the rest", x.bestHeat(), 600);
        x.takeOff(1);
        Due.is("melting before dulling", x.bestHeat(), 720);
        x.put(0, 2);
        x.takeOff(2);
        Due.is("melting above a smooth one", x.bestHeat(), 720);
        // 710 melts both, but the one of 650 would burn; at 650 one melts, and none dulls or burns.
        EnamelKiln y = new EnamelKiln();
        y.color(710, 900, 100);
        y.color(650, 660, 100);
        y.color(690, 900, 100);
        y.set(1, 0);
        y.put(0, 2);
        y.fire(690, 3);
        y.put(1, 0);
        y.put(2, 1);
        Due.is("one melts either way, unless the other burns", y.bestHeat(), 650);
    }
}
