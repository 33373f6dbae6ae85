/** Promises 11 to 13, and 'Firing': the boundary cases, sentence by sentence. */
final class FiringEdgesTest {
    private static final int MIN = Integer.MIN_VALUE;
    private static final int MAX = Integer.MAX_VALUE;
    private static final int INVALID = -1;
    private static final int RAW = 0;
    private static final int GRAINY = 1;
    private static final int SMOOTH = 2;
    private static final int DULL = 3;
    private static final int BURNT = 4;
    private static final int BECAME_SMOOTH = 15;
    private static final int BECAME_DULL = 16;
    private static final int BURNED = 17;
    private static final int CRACKS = 18;
    private static final int MENDED = 19;

    public static void main(String[] args) throws ReflectiveOperationException {
        Due.runAll(FiringEdgesTest.class);
    }

    /** A layer that melts at 700 and burns above 800 on the field 0; a dull one has softened once, of none. */
    private static EnamelKiln withLayer(int state) {
        return withLayer(0, state);
    }

    private static EnamelKiln withLayer(int field, int state) {
        EnamelKiln x = new EnamelKiln();
        x.color(700, 800, 100);
        return Begun.withLayer(x, field, state);
    }

    /** A cracked field 0 with a smooth layer (700 to 850, pull 70); others that melt at 760, 860, 690. */
    private static EnamelKiln cracked() {
        EnamelKiln x = new EnamelKiln();
        x.color(700, 850, 100);
        x.color(760, 900, 100);
        x.color(860, 900, 100);
        x.color(690, 710, 100);
        x.set(2, 69);
        x.put(0, 0);
        x.fire(700, 3);
        Due.is("cracked", x.field(0, 3), 1);
        x.set(2, 400);
        return x;
    }

    private static EnamelKiln withFullPlate() {
        EnamelKiln x = new EnamelKiln();
        x.color(700, 800, 100);
        return Begun.withFullPlate(x);
    }

    private static void fired(int from, int heat, int minutes, int due) {
        for (int field = 0; field <= 6; field += 2) {
            EnamelKiln x = withLayer(field, from);
            int smooth = x.fire(heat, minutes);
            String call = "from " + from + " by fire(" + heat + ", " + minutes + ")";
            Due.is(call + " state", x.layer(field, 0, 1), due);
            Due.is(call, smooth, due == SMOOTH && from != SMOOTH ? 1 : 0);
        }
    }

    private static void softened(int from, int heat, int minutes, int due) {
        EnamelKiln x = withLayer(from);
        x.fire(heat, minutes);
        Due.is("from " + from + " by fire(" + heat + ", " + minutes + ") softenings", x.layer(0, 0, 2), due);
    }

    private static void mended(String when, EnamelKiln x, int heat, boolean due) {
        int before = x.count(MENDED);
        x.fire(heat, 3);
        Due.is("crack " + when, x.field(0, 3), due ? 0 : 1);
        Due.is("mended " + when, x.count(MENDED) - before, due ? 1 : 0);
    }

    private static void ifFired(EnamelKiln x, int heat, int what, int due) {
        Due.is("ifFired(" + heat + ", " + what + ")", x.ifFired(heat, what), due);
    }

    // ---- firing: the layers

    /** Promise 11, Firing: "The plate is fired with a heat (500 to 1200) for some minutes (1 to 20)." */
    static void heatAndMinutesAtTheirEnds() {
        EnamelKiln x = new EnamelKiln();
        Due.is("fire(499, 1)", x.fire(499, 1), INVALID);
        Due.is("fire(500, 1)", x.fire(500, 1), 0);
        Due.is("fire(1200, 20)", x.fire(1200, 20), 0);
        Due.is("fire(1201, 20)", x.fire(1201, 20), INVALID);
        Due.is("fire(500, 0)", x.fire(500, 0), INVALID);
        Due.is("fire(1200, 21)", x.fire(1200, 21), INVALID);
        Due.is("firings", x.count(11), 2);
        Due.is("minutes", x.count(12), 21);
    }

    /** Promise 11, Firing: "Then, for each layer of all fields:" */
    static void eachLayerOfAllFields() {
        EnamelKiln x = withFullPlate();
        Due.is("fire(700, 3)", x.fire(700, 3), 21);
        for (int field = 0; field <= 6; field++) {
            for (int layer = 0; layer < 3; layer++) {
                Due.is("state of " + field + ", " + layer, x.layer(field, layer, 1), SMOOTH);
            }
        }
        x.fire(680, 3);
        x.fire(801, 3);
        for (int field = 0; field <= 6; field++) {
            for (int layer = 0; layer < 3; layer++) {
                Due.is("state of " + field + ", " + layer, x.layer(field, layer, 1), BURNT);
                Due.is("softenings of " + field + ", " + layer, x.layer(field, layer, 2), 1);
            }
        }
    }

    /** Promise 11, Firing: "a burnt layer stays burnt" */
    static void burntStaysBurnt() {
        for (int heat : new int[] {500, 659, 660, 680, 699, 700, 800, 801, 1200}) {
            fired(BURNT, heat, 3, BURNT);
            softened(BURNT, heat, 3, 0);
            EnamelKiln x = withLayer(BURNT);
            x.fire(heat, 3);
            Due.is("burnt once", x.count(BURNED), 1);
        }
    }

    /** Promise 11, Firing: "any other one becomes burnt if the heat is greater than its burning heat" */
    static void burntAboveTheBurningHeat() {
        for (int state = RAW; state <= DULL; state++) {
            fired(state, 801, 1, BURNT);
            fired(state, 801, 20, BURNT);
            fired(state, 1200, 3, BURNT);
            fired(state, 800, 20, state == DULL ? DULL : SMOOTH);
            fired(state, 800, 1, Math.max(state, GRAINY));
            EnamelKiln x = withLayer(state);
            x.fire(800, 1);
            Due.is("not burnt from " + state, x.count(BURNED), 0);
            x.fire(801, 1);
            Due.is("burnt from " + state, x.count(BURNED), 1);
        }
        EnamelKiln x = new EnamelKiln();
        x.color(600, 610, 100);
        x.color(900, 1100, 100);
        x.put(0, 0);
        x.put(6, 1);
        x.fire(610, 3);
        Due.is("the least burning heat", x.layer(0, 0, 1), SMOOTH);
        x.fire(611, 3);
        Due.is("one above it", x.layer(0, 0, 1), BURNT);
        x.fire(1100, 3);
        Due.is("the greatest burning heat", x.layer(6, 0, 1), SMOOTH);
        x.fire(1101, 3);
        Due.is("one above it", x.layer(6, 0, 1), BURNT);
    }

    /**
     * Promise 11, Firing: "otherwise a raw or grainy layer becomes smooth if the heat is at least its
     * melting heat and the minutes are at least the setting time"
     */
    static void smoothFromTheMeltingHeatOnAndTheTime() {
        for (int state = RAW; state <= GRAINY; state++) {
            fired(state, 699, 3, GRAINY);
            fired(state, 699, 20, GRAINY);
            fired(state, 700, 3, SMOOTH);
            fired(state, 700, 2, GRAINY);
            fired(state, 700, 20, SMOOTH);
            fired(state, 800, 3, SMOOTH);
            fired(state, 800, 2, GRAINY);
            for (int time = 1; time <= 10; time++) {
                EnamelKiln x = withLayer(state);
                x.set(0, time);
                Due.is("too few minutes for " + time, x.fire(700, time - 1), time == 1 ? INVALID : 0);
                Due.is("as many minutes as " + time, x.fire(700, time), 1);
            }
        }
        fired(DULL, 700, 3, DULL);
        for (int melting : new int[] {600, 900}) {
            EnamelKiln x = new EnamelKiln();
            x.color(melting, melting + 10, 100);
            x.put(0, 0);
            Due.is("below " + melting, x.fire(melting - 1, 3), 0);
            Due.is("at " + melting, x.fire(melting, 3), 1);
        }
    }

    /**
     * Promise 11, Firing: "if not, it becomes (or stays) grainy if the heat is at least its melting heat
     * minus 40"
     */
    static void grainyFrom40BelowOn() {
        for (int state = RAW; state <= GRAINY; state++) {
            fired(state, 659, 20, state);
            fired(state, 660, 1, GRAINY);
            fired(state, 660, 20, GRAINY);
            fired(state, 661, 3, GRAINY);
            fired(state, 699, 3, GRAINY);
            fired(state, 700, 1, GRAINY);
            fired(state, 800, 1, GRAINY);
        }
    }

    /** Promise 11, Firing: "otherwise it stays as it is" */
    static void rawAndGrainyStayBelow() {
        for (int state = RAW; state <= GRAINY; state++) {
            fired(state, 500, 20, state);
            fired(state, 659, 1, state);
            fired(state, 659, 3, state);
            softened(state, 659, 3, 0);
        }
    }

    /**
     * Promise 11, Firing: "otherwise a smooth or dull layer softens if the heat is at least its melting
     * heat minus 20: its softenings grow by 1, and if they are greater than the setting then, it becomes
     * dull, if it is not yet." (here: which heats soften which layers)
     */
    static void softensFrom20BelowOn() {
        int[] before = {0, 0, 0, 1};
        for (int state = SMOOTH; state <= DULL; state++) {
            softened(state, 500, 20, before[state]);
            softened(state, 679, 20, before[state]);
            softened(state, 680, 1, before[state] + 1);
            softened(state, 680, 20, before[state] + 1);
            softened(state, 700, 3, before[state] + 1);
            softened(state, 800, 20, before[state] + 1);
            softened(state, 801, 20, before[state]);
        }
        for (int state = RAW; state <= GRAINY; state++) {
            softened(state, 680, 20, 0);
            softened(state, 699, 20, 0);
            softened(state, 700, 2, 0);
        }
    }

    /**
     * Promise 11, Firing: "its softenings grow by 1, and if they are greater than the setting then, it
     * becomes dull, if it is not yet."
     */
    static void dullAboveTheSetting() {
        for (int allowed = 0; allowed <= 5; allowed++) {
            EnamelKiln x = withLayer(RAW);
            x.set(1, allowed);
            x.fire(700, 3);
            for (int softened = 1; softened <= allowed + 3; softened++) {
                x.fire(680, 1);
                Due.is("softenings", x.layer(0, 0, 2), softened);
                Due.is("state", x.layer(0, 0, 1), softened <= allowed ? SMOOTH : DULL);
                Due.is("became dull", x.count(BECAME_DULL), softened <= allowed ? 0 : 1);
            }
        }
    }

    /** Promise 11, Firing: "if they are greater than the setting then" (a setting that was changed) */
    static void dullByTheSettingThen() {
        EnamelKiln x = withLayer(SMOOTH);
        x.fire(680, 1);
        x.fire(680, 1);
        x.set(1, 0);
        Due.is("not by the setting alone", x.layer(0, 0, 1), SMOOTH);
        x.fire(679, 20);
        Due.is("not by a firing that does not soften", x.layer(0, 0, 1), SMOOTH);
        Due.is("if it softened", x.ifFired(680, 2), 1);
        x.set(1, 3);
        x.fire(680, 1);
        Due.is("three of three", x.layer(0, 0, 1), SMOOTH);
        x.set(1, 2);
        x.fire(680, 1);
        Due.is("four of two", x.layer(0, 0, 1), DULL);
        x.set(1, 5);
        x.fire(680, 1);
        Due.is("five of five, but dull already", x.layer(0, 0, 1), DULL);
        Due.is("became dull", x.count(BECAME_DULL), 1);
    }

    /** Promise 11, Firing: "A layer that becomes smooth by this firing does not soften by it." */
    static void meltingIsNoSoftening() {
        for (int state = RAW; state <= GRAINY; state++) {
            softened(state, 700, 3, 0);
            softened(state, 800, 20, 0);
            EnamelKiln x = withLayer(state);
            x.set(1, 0);
            x.fire(750, 3);
            Due.is("smooth, not dull", x.layer(0, 0, 1), SMOOTH);
        }
    }

    // ---- firing: cracks

    /**
     * Promise 11, Firing: "Then cracked fields are looked at: a cracked field is mended if each of its
     * layers became smooth or softened by this firing (also if it became dull by this; none is burnt,
     * raw or grainy)." (here: one layer, and layers that all do)
     */
    static void mendedIfEachGivesWay() {
        mended("at 679", cracked(), 679, false);
        mended("at 680", cracked(), 680, true);
        mended("at 850", cracked(), 850, true);
        EnamelKiln x = cracked();
        x.put(0, 1);
        mended("by one that softens and one that melts", x, 760, true);
        x = cracked();
        x.put(0, 1);
        x.fire(720, 3);
        x.put(0, 0);
        mended("by one that softens and two that melt", x, 760, true);
        x = cracked();
        x.set(1, 0);
        mended("by one that becomes dull", x, 680, true);
        x = cracked();
        x.set(1, 0);
        x.put(0, 1);
        x.set(2, 0);
        x.fire(760, 3);
        x.set(2, 400);
        Due.is("cracked by the firing that mended", x.field(0, 3), 1);
        mended("by one that is dull and one that becomes so", x, 740, true);
    }

    /** Promise 11, Firing: "(also if it became dull by this; none is burnt, raw or grainy)" */
    static void notMendedWithOthers() {
        EnamelKiln x = cracked();
        x.put(0, 2);
        mended("with a raw one", x, 819, false);
        mended("with one that becomes grainy", x, 820, false);
        mended("with a grainy one", x, 680, false);
        x = cracked();
        x.put(0, 3);
        mended("with one that burns", x, 711, false);
        mended("with a burnt one", x, 711, false);
        mended("with a burnt one, hotter", x, 850, false);
        mended("if it burns", cracked(), 851, false);
        x = cracked();
        x.fire(851, 1);
        mended("if it is burnt", x, 700, false);
        x = cracked();
        x.put(0, 1);
        x.set(2, 0);
        x.fire(760, 3);
        x.set(2, 400);
        mended("with a smooth one that does not soften", x, 739, false);
        mended("with a smooth one that softens", x, 740, true);
    }

    /** Promise 11, Firing: "a cracked field is mended" (one that is not cracked is not) */
    static void onlyCrackedOnesAreMended() {
        EnamelKiln x = withLayer(SMOOTH);
        x.fire(700, 3);
        Due.is("mended", x.count(MENDED), 0);
        x = new EnamelKiln();
        x.fire(700, 3);
        Due.is("mended of a bare plate", x.count(MENDED), 0);
        x = cracked();
        x.put(1, 0);
        x.fire(700, 3);
        x.fire(700, 3);
        Due.is("mended once", x.count(MENDED), 1);
    }

    /**
     * Promise 11, Firing: "Then the plate cools: the pull of a field is the sum of the pulls of its layers
     * that are smooth or dull."
     */
    static void pullIsTheSumOfThree() {
        EnamelKiln x = new EnamelKiln();
        x.color(600, 800, 60);
        x.color(700, 710, 90);
        x.color(800, 900, 160);
        x.put(0, 0);
        Due.is("raw", x.field(0, 1), 0);
        x.fire(560, 1);
        Due.is("grainy", x.field(0, 1), 0);
        x.fire(600, 3);
        Due.is("smooth", x.field(0, 1), 110);
        x.put(0, 1);
        x.fire(700, 3);
        Due.is("two smooth ones", x.field(0, 1), 190);
        x.put(0, 2);
        x.fire(710, 3);
        Due.is("two smooth ones and a raw one", x.field(0, 1), 190);
        x.fire(711, 3);
        Due.is("dull, burnt and raw", x.field(0, 1), 110);
        Due.is("dull", x.layer(0, 0, 1), DULL);
        x.fire(800, 3);
        Due.is("dull, burnt and smooth", x.field(0, 1), 120);
    }

    /**
     * Promise 11, Firing: "The strain of a field of the front is the absolute difference of its pull and
     * that of the back."
     */
    static void strainBothWays() {
        for (int field = 0; field <= 5; field++) {
            EnamelKiln x = new EnamelKiln();
            x.color(700, 800, 100);
            x.color(700, 800, 130);
            x.set(2, 30);
            x.put(field, 0);
            x.put(6, 1);
            x.fire(700, 3);
            Due.is("70 in front, 40 behind", x.field(field, 2), 30);
            Due.is("not cracked by 30", x.field(field, 3), 0);
            x.clean();
            x.put(field, 1);
            x.put(6, 0);
            x.fire(700, 3);
            Due.is("40 in front, 70 behind", x.field(field, 2), 30);
            Due.is("not cracked by 30", x.field(field, 3), 0);
            x.set(2, 29);
            x.fire(500, 1);
            Due.is("cracked by 30 of 29", x.field(field, 3), 1);
            Due.is("the only one", x.count(7), 1);
        }
    }

    /** Promise 11, Firing: "cracks if its strain is greater than the setting strain." */
    static void cracksAboveTheSetting() {
        for (int strain : new int[] {10, 70, 110}) {
            for (int more = 0; more <= 1; more++) {
                EnamelKiln x = new EnamelKiln();
                x.color(700, 800, 170 - strain);
                x.set(2, strain - more);
                x.put(3, 0);
                x.fire(700, 3);
                Due.is("strain " + strain + " of " + (strain - more), x.field(3, 3), more);
                Due.is("cracks", x.count(CRACKS), more);
            }
        }
        EnamelKiln x = new EnamelKiln();
        x.color(700, 800, 100);
        x.color(700, 800, 101);
        x.set(2, 0);
        x.put(0, 0);
        x.put(1, 1);
        x.put(6, 0);
        x.fire(700, 3);
        Due.is("strain 0 of 0", x.field(0, 3), 0);
        Due.is("strain 1 of 0", x.field(1, 3), 1);
    }

    /** Promise 11, Firing: "cracks if its strain is greater than the setting strain." (the greatest strain, 330) */
    static void cracksByTheGreatestStrain() {
        EnamelKiln x = new EnamelKiln();
        x.color(700, 800, 60);
        x.set(2, 400);
        for (int layer = 0; layer < 3; layer++) {
            x.put(5, 0);
            x.fire(700, 3);
        }
        Due.is("the greatest strain", x.field(5, 2), 330);
        Due.is("of 400", x.field(5, 3), 0);
        x.set(2, 330);
        x.fire(500, 1);
        Due.is("of 330", x.field(5, 3), 0);
        x.set(2, 329);
        x.fire(500, 1);
        Due.is("of 329", x.field(5, 3), 1);
    }

    /** Promise 11, Firing: "A field of the front that is not cracked (or was mended by this firing)" */
    static void cracksOnceUnlessMended() {
        EnamelKiln x = cracked();
        x.set(2, 69);
        Due.is("cracks", x.count(CRACKS), 1);
        x.fire(500, 1);
        x.fire(679, 1);
        Due.is("cracked, and not mended", x.count(CRACKS), 1);
        Due.is("mended", x.count(MENDED), 0);
        x.fire(680, 1);
        Due.is("mended and cracked again", x.count(CRACKS), 2);
        Due.is("mended", x.count(MENDED), 1);
        Due.is("cracked", x.field(0, 3), 1);
        x.set(2, 70);
        x.fire(680, 1);
        Due.is("mended for good", x.count(CRACKS), 2);
        Due.is("mended", x.count(MENDED), 2);
        Due.is("not cracked", x.field(0, 3), 0);
        x.set(2, 69);
        x.fire(500, 1);
        Due.is("cracked once more", x.count(CRACKS), 3);
    }

    /** Promise 11, Firing: "and has a layer that is smooth or dull" */
    static void cracksOnlyWithSmoothOrDull() {
        for (int state = RAW; state <= BURNT; state++) {
            EnamelKiln x = withLayer(1, state);
            x.set(2, 400);
            x.color(600, 620, 100);
            x.put(6, 1);
            x.fire(600, 3);
            Due.is("the back pulls", x.field(6, 1), 70);
            x.put(6, 1);
            x.fire(600, 3);
            Due.is("the back pulls", x.field(6, 1), 140);
            x.set(2, 69);
            x.fire(500, 1);
            boolean holds = state == SMOOTH || state == DULL;
            Due.is("strain from " + state, x.field(1, 2), holds ? 70 : 140);
            Due.is("cracked from " + state, x.field(1, 3), holds ? 1 : 0);
            Due.is("fields without layers do not crack", x.count(7), holds ? 1 : 0);
        }
    }

    /** Promise 11, Firing: "and has a layer that is smooth or dull" (one of three that is) */
    static void cracksWithOneOfThreeSmooth() {
        EnamelKiln x = new EnamelKiln();
        x.color(600, 620, 100);
        x.color(700, 800, 100);
        x.color(850, 900, 100);
        x.set(2, 69);
        x.put(0, 0);
        x.fire(621, 1);
        x.put(0, 1);
        x.fire(660, 1);
        x.put(0, 2);
        x.fire(690, 3);
        Due.is("burnt, grainy and raw", x.field(0, 3), 0);
        x.fire(700, 3);
        Due.is("burnt, smooth and raw", x.field(0, 3), 1);
    }

    /** Promise 11, Firing: "and has a layer that is smooth or dull" (a layer of its own, that is there now) */
    static void cracksWithLayersOfItsOwnOnly() {
        EnamelKiln x = new EnamelKiln();
        x.color(700, 800, 100);
        x.set(2, 400);
        for (int field = 0; field <= 5; field++) {
            x.put(field, 0);
        }
        x.fire(700, 3);
        x.clean();
        x.put(6, 0);
        x.fire(700, 3);
        x.set(2, 0);
        x.fire(500, 1);
        Due.is("bare ones, where there were layers", x.count(7), 0);
        x.put(3, 0);
        x.fire(500, 1);
        Due.is("a raw one, where there was a smooth one", x.count(7), 0);
        for (int field = 0; field <= 4; field++) {
            EnamelKiln y = new EnamelKiln();
            y.color(700, 800, 100);
            y.color(600, 610, 100);
            for (int layer = 0; layer < 3; layer++) {
                Due.is("put", y.put(field, 1), layer);
                y.fire(611, 1);
            }
            y.put(field + 1, 0);
            y.put(6, 0);
            y.set(2, 69);
            y.fire(700, 3);
            Due.is("three burnt ones beside a smooth one", y.field(field, 3), 0);
            Due.is("strain", y.field(field, 2), 70);
            Due.is("cracked ones", y.count(7), 0);
        }
    }

    /** Promise 11, Firing: "(The back never cracks.)" */
    static void theBackNeverCracks() {
        EnamelKiln x = new EnamelKiln();
        x.color(700, 800, 60);
        x.set(2, 0);
        x.put(6, 0);
        x.fire(700, 3);
        x.fire(700, 3);
        Due.is("cracked fields", x.count(7), 0);
        Due.is("cracks", x.count(CRACKS), 0);
        Due.is("mended", x.count(MENDED), 0);
        Due.is("if fired", x.ifFired(700, 3), 0);
        x.put(0, 0);
        x.fire(700, 3);
        Due.is("one of the front, balanced", x.count(CRACKS), 0);
    }

    /** Promise 11, Firing: "Then the plate cools" (all layers have melted by then, the back's too) */
    static void coolsBehindAllMelting() {
        EnamelKiln x = new EnamelKiln();
        x.color(700, 800, 60);
        x.set(2, 0);
        x.put(0, 0);
        x.put(5, 0);
        x.put(6, 0);
        x.fire(700, 3);
        Due.is("balanced at once", x.count(CRACKS), 0);
    }

    // ---- fire

    /** Promise 11: "Fires the plate." */
    static void fireCountsItself() {
        EnamelKiln x = withLayer(RAW);
        x.fire(700, 3);
        Due.is("firings", x.count(11), 1);
        Due.is("minutes", x.count(12), 3);
        Due.is("became smooth", x.count(BECAME_SMOOTH), 1);
        x.fire(500, 20);
        Due.is("firings", x.count(11), 2);
        Due.is("minutes", x.count(12), 23);
    }

    /** Promise 11: "`heat`: 500 to 1200" */
    static void fireHeatFrom500To1200() {
        EnamelKiln x = withLayer(RAW);
        Due.is("fire(499, 3)", x.fire(499, 3), INVALID);
        Due.is("fire(500, 3)", x.fire(500, 3), 0);
        Due.is("fire(1201, 3)", x.fire(1201, 3), INVALID);
        Due.is("state", x.layer(0, 0, 1), RAW);
        Due.is("fire(1200, 3)", x.fire(1200, 3), 0);
        Due.is("state", x.layer(0, 0, 1), BURNT);
    }

    /** Promise 11: "`minutes`: 1 to 20" */
    static void fireMinutesFromOneTo20() {
        EnamelKiln x = withLayer(RAW);
        x.set(0, 1);
        Due.is("fire(700, 0)", x.fire(700, 0), INVALID);
        Due.is("fire(700, 21)", x.fire(700, 21), INVALID);
        Due.is("state", x.layer(0, 0, 1), RAW);
        Due.is("fire(700, 1)", x.fire(700, 1), 1);
        x.put(0, 0);
        Due.is("fire(700, 20)", x.fire(700, 20), 1);
        Due.is("minutes", x.count(12), 21);
    }

    /** Promise 11: "Returns how many layers become smooth" (none, some, all 21) */
    static void fireReturnsNoneTo21() {
        Due.is("of a full plate", withFullPlate().fire(700, 3), 21);
        EnamelKiln x = new EnamelKiln();
        x.color(700, 800, 100);
        x.color(750, 760, 100);
        Due.is("of a bare plate", x.fire(750, 3), 0);
        x.put(0, 0);
        x.put(1, 0);
        x.put(2, 1);
        x.put(6, 0);
        Due.is("of three that melt", x.fire(700, 3), 3);
        Due.is("of none that melts again", x.fire(700, 3), 0);
        Due.is("of one that melts", x.fire(760, 3), 1);
        x.put(3, 1);
        Due.is("of one that burns", x.fire(761, 3), 0);
    }

    /** Promise 11: "INVALID_ARGUMENT if an argument is out of range" */
    static void fireOutOfRange() {
        EnamelKiln x = withLayer(RAW);
        int[][] wrong = {
            {499, 3}, {1201, 3}, {700, 0}, {700, 21}, {MIN, 3}, {MAX, 3}, {700, MIN}, {700, MAX}, {0, 3},
            {-700, 3}, {700, -3}, {499, 0}, {1201, 21},
        };
        for (int[] w : wrong) {
            Due.is("fire(" + w[0] + ", " + w[1] + ")", x.fire(w[0], w[1]), INVALID);
        }
        Due.same("behind wrong ones", x, withLayer(RAW));
    }

    /**
     * Promise 11: "LIMIT_REACHED if it was fired 1000 times" (an object has 512 calls, so that the limit
     * is never reached by promised ones: here none of 511 firings is refused)
     */
    static void fireWithinThePromisedCalls() {
        EnamelKiln x = new EnamelKiln();
        for (int firing = 0; firing < 511; firing++) {
            Due.is("firing " + firing, x.fire(600, 20), 0);
        }
        Due.is("firings", x.count(11), 511);
    }

    // ---- ifFired

    /** Promise 12: "Tells what a firing with so many minutes as the setting time would do." */
    static void ifFiredForTheSettingTime() {
        for (int time = 1; time <= 10; time++) {
            EnamelKiln x = withLayer(RAW);
            x.set(0, time);
            ifFired(x, 699, 0, 0);
            ifFired(x, 700, 0, 1);
            ifFired(x, 800, 0, 1);
            ifFired(x, 801, 0, 0);
        }
    }

    /** Promise 12: "with so many minutes as the setting time" (whatever the other settings are) */
    static void ifFiredForTheTimeAmongOthers() {
        int[][] settings = {{10, 0, 0}, {10, 5, 9}, {1, 5, 400}, {5, 4, 4}};
        for (int[] s : settings) {
            EnamelKiln x = withLayer(GRAINY);
            for (int what = 0; what <= 2; what++) {
                x.set(what, s[what]);
            }
            ifFired(x, 700, 0, 1);
            Due.is("bestHeat()", x.bestHeat(), 700);
        }
    }

    /** Promise 12: "Nothing changes." */
    static void ifFiredChangesNothing() {
        for (int heat : new int[] {499, 500, 680, 700, 760, 801, 1200}) {
            EnamelKiln x = cracked();
            EnamelKiln y = cracked();
            x.put(0, 1);
            y.put(0, 1);
            for (int what = -1; what <= 5; what++) {
                x.ifFired(heat, what);
            }
            Due.same("behind ifFired at " + heat, x, y);
        }
    }

    /** Promise 12: "`heat`: 500 to 1200" */
    static void ifFiredHeatFrom500To1200() {
        EnamelKiln x = withLayer(RAW);
        ifFired(x, 499, 1, INVALID);
        ifFired(x, 500, 1, 0);
        ifFired(x, 1200, 1, 1);
        ifFired(x, 1201, 1, INVALID);
    }

    /**
     * Promise 12: "`what`: 0: layers that become smooth; 1: layers that become burnt; 2: layers that become
     * dull; 3: fields that would crack; 4: fields that would be mended"
     */
    static void ifFiredFromNoughtToFour() {
        EnamelKiln x = cracked();
        x.set(2, 69);
        x.set(1, 0);
        x.put(1, 1);
        x.put(2, 1);
        x.put(3, 1);
        x.put(4, 3);
        x.put(5, 3);
        // At 760 the one of 0 dulls, is mended and cracks again; three melt and crack; two burn.
        int[] due = {INVALID, 3, 2, 1, 4, 1, INVALID};
        for (int what = -1; what <= 5; what++) {
            ifFired(x, 760, what, due[what + 1]);
        }
    }

    /** Promise 12: "0: layers that become smooth" (none, all 21) */
    static void ifFiredSmooth() {
        EnamelKiln x = withFullPlate();
        ifFired(x, 500, 0, 0);
        ifFired(x, 699, 0, 0);
        ifFired(x, 700, 0, 21);
        ifFired(x, 800, 0, 21);
        ifFired(x, 801, 0, 0);
        x.fire(700, 3);
        ifFired(x, 700, 0, 0);
    }

    /** Promise 12: "1: layers that become burnt" (none, all 21, not those that are burnt) */
    static void ifFiredBurnt() {
        EnamelKiln x = withFullPlate();
        ifFired(x, 800, 1, 0);
        ifFired(x, 801, 1, 21);
        ifFired(x, 1200, 1, 21);
        x.fire(801, 1);
        ifFired(x, 801, 1, 0);
        ifFired(x, 1200, 1, 0);
    }

    /** Promise 12: "2: layers that become dull" (none, all 21, not those that are dull) */
    static void ifFiredDull() {
        EnamelKiln x = withFullPlate();
        x.set(1, 0);
        ifFired(x, 700, 2, 0);
        x.fire(700, 3);
        ifFired(x, 679, 2, 0);
        ifFired(x, 680, 2, 21);
        ifFired(x, 801, 2, 0);
        x.set(1, 1);
        ifFired(x, 680, 2, 0);
        x.set(1, 0);
        x.fire(680, 1);
        ifFired(x, 680, 2, 0);
    }

    /** Promise 12: "2: layers that become dull" (by the softenings that each has by now) */
    static void ifFiredDullBySoftenings() {
        for (int allowed = 0; allowed <= 5; allowed++) {
            EnamelKiln x = new EnamelKiln();
            x.color(700, 800, 100);
            x.color(700, 800, 100);
            x.set(1, allowed);
            x.put(0, 0);
            x.put(6, 1);
            x.fire(700, 3);
            for (int softened = 0; softened <= 6; softened++) {
                ifFired(x, 680, 2, softened == allowed ? 2 : 0);
                x.fire(680, 1);
            }
        }
    }

    /** Promise 12: "3: fields that would crack" (none, all six, also those that are mended before) */
    static void ifFiredCracks() {
        EnamelKiln x = new EnamelKiln();
        x.color(700, 800, 100);
        for (int field = 0; field <= 5; field++) {
            x.put(field, 0);
        }
        x.set(2, 70);
        ifFired(x, 700, 3, 0);
        x.set(2, 69);
        ifFired(x, 699, 3, 0);
        ifFired(x, 700, 3, 6);
        x.fire(700, 3);
        ifFired(x, 679, 3, 0);
        ifFired(x, 680, 3, 6);
        ifFired(x, 801, 3, 0);
        x.put(6, 0);
        ifFired(x, 700, 3, 0);
    }

    /** Promise 12: "4: fields that would be mended" (none, all six, also those that crack again) */
    static void ifFiredMended() {
        EnamelKiln x = new EnamelKiln();
        x.color(700, 800, 100);
        for (int field = 0; field <= 5; field++) {
            x.put(field, 0);
        }
        x.set(2, 69);
        ifFired(x, 700, 4, 0);
        x.fire(700, 3);
        ifFired(x, 679, 4, 0);
        ifFired(x, 680, 4, 6);
        ifFired(x, 800, 4, 6);
        ifFired(x, 801, 4, 0);
        x.set(2, 400);
        ifFired(x, 680, 4, 6);
        x.put(2, 0);
        ifFired(x, 680, 4, 5);
        ifFired(x, 700, 4, 6);
    }

    /** Promise 12: "Returns the number" (as the firing does it then) */
    static void ifFiredAsFired() {
        int[] accounts = {BECAME_SMOOTH, BURNED, BECAME_DULL, CRACKS, MENDED};
        for (int heat : new int[] {500, 659, 679, 680, 699, 700, 739, 740, 760, 850, 851, 1200}) {
            EnamelKiln x = cracked();
            x.set(1, 0);
            x.set(2, 60);
            x.put(0, 1);
            x.put(1, 0);
            x.put(6, 3);
            int[] told = new int[5];
            int[] before = new int[5];
            for (int what = 0; what < 5; what++) {
                told[what] = x.ifFired(heat, what);
                before[what] = x.count(accounts[what]);
            }
            Due.is("fire(" + heat + ", 3)", x.fire(heat, 3), told[0]);
            for (int what = 0; what < 5; what++) {
                Due.is("account of " + what + " at " + heat, x.count(accounts[what]) - before[what], told[what]);
            }
        }
    }

    /** Promise 12: "INVALID_ARGUMENT if an argument is out of range" */
    static void ifFiredOutOfRange() {
        EnamelKiln x = withLayer(RAW);
        int[][] wrong = {
            {499, 0}, {1201, 0}, {MIN, 0}, {MAX, 0}, {700, -1}, {700, 5}, {700, MIN}, {700, MAX}, {499, 5},
        };
        for (int[] w : wrong) {
            ifFired(x, w[0], w[1], INVALID);
        }
    }

    // ---- bestHeat

    /**
     * Promise 13: "Returns the heat, with as many minutes as the setting time, by which no layer becomes
     * burnt and most layers become smooth, of several that by which fewest become dull, then the least one."
     */
    static void bestHeatMeltsMost() {
        EnamelKiln x = new EnamelKiln();
        x.color(700, 740, 100);
        x.color(740, 800, 100);
        x.color(741, 900, 100);
        x.put(0, 0);
        Due.is("one", x.bestHeat(), 700);
        x.put(1, 1);
        Due.is("both, at the burning heat of one", x.bestHeat(), 740);
        x.takeOff(1);
        x.put(1, 2);
        Due.is("not above the burning heat of one", x.bestHeat(), 700);
        x.put(2, 2);
        x.put(6, 2);
        Due.is("three would melt, but one would burn", x.bestHeat(), 700);
        x.fire(741, 1);
        Due.is("burnt by now", x.layer(0, 0, 1), BURNT);
        Due.is("a burnt one does not become burnt", x.bestHeat(), 741);
        x.set(0, 10);
        Due.is("for the setting time", x.bestHeat(), 741);
    }

    /** Promise 13: "of several that by which fewest become dull, then the least one" */
    static void bestHeatOfSeveral() {
        EnamelKiln x = new EnamelKiln();
        x.color(600, 800, 100);
        x.color(700, 800, 100);
        x.set(1, 0);
        x.put(0, 1);
        x.fire(700, 3);
        Due.is("none melts: the least", x.bestHeat(), 500);
        x.put(1, 0);
        Due.is("600 to 800 melt it, from 680 the other one dulls", x.bestHeat(), 600);
        x.put(2, 1);
        Due.is("700 melts both, though one dulls", x.bestHeat(), 700);
        x.takeOff(2);
        x.takeOff(1);
        x.set(1, 5);
        Due.is("none melts, none dulls: the least", x.bestHeat(), 500);
    }

    /** Promise 13: "then the least one" (in whatever order the colors are) */
    static void bestHeatIsTheLeastOfSeveral() {
        int[][] orders = {{700, 760, 820}, {820, 760, 700}, {760, 820, 700}, {760, 700, 820}};
        for (int[] melting : orders) {
            for (int raw = 0; raw < 3; raw++) {
                EnamelKiln x = new EnamelKiln();
                for (int color = 0; color < 3; color++) {
                    x.color(melting[color], 900, 100);
                }
                x.put(0, raw);
                x.put(6, raw);
                Due.is("of " + melting[raw], x.bestHeat(), melting[raw]);
                x.fire(melting[raw], 3);
                Due.is("of none", x.bestHeat(), 500);
                x.set(1, 0);
                Due.is("of none, if it dulled", x.bestHeat(), 500);
            }
        }
    }

    /** Promise 13: "and most layers become smooth, of several" (cracks and mending do not matter) */
    static void bestHeatHeedsNoCracks() {
        EnamelKiln x = new EnamelKiln();
        x.color(600, 800, 60);
        x.color(800, 900, 100);
        x.set(2, 400);
        x.put(0, 0);
        x.put(1, 0);
        x.fire(600, 3);
        x.set(2, 0);
        x.put(2, 1);
        Due.is("cracks at any heat", x.ifFired(500, 3), 2);
        Due.is("one melts", x.bestHeat(), 800);
        x.fire(500, 3);
        Due.is("two could be mended", x.ifFired(580, 4), 2);
        Due.is("one melts", x.bestHeat(), 800);
        x.takeOff(2);
        Due.is("none melts", x.bestHeat(), 500);
    }

    /** Promise 13: "by which no layer becomes burnt" (raw, grainy, smooth and dull ones) */
    static void bestHeatBurnsNone() {
        for (int state = RAW; state <= BURNT; state++) {
            for (int above = 0; above <= 1; above++) {
                EnamelKiln x = withLayer(state);
                x.color(800 + above, 900, 100);
                x.put(1, 1);
                x.put(2, 1);
                int due = above == 0 || state == BURNT ? 800 + above : state <= GRAINY ? 700 : 500;
                Due.is("from " + state + ", melting at " + (800 + above), x.bestHeat(), due);
            }
        }
    }

    /** Promise 13: "Returns the heat, 500 to 1200." */
    static void bestHeatFrom500On() {
        EnamelKiln x = new EnamelKiln();
        Due.is("without colors", x.bestHeat(), 500);
        x.color(900, 1100, 100);
        x.color(600, 610, 100);
        Due.is("without layers", x.bestHeat(), 500);
        x.put(6, 0);
        Due.is("the greatest melting heat", x.bestHeat(), 900);
        x.put(0, 1);
        Due.is("the least melting heat", x.bestHeat(), 600);
        x.fire(1200, 1);
        Due.is("all burnt", x.bestHeat(), 500);
    }

    /** Promise 13: "Returns the heat" (nothing changes by it) */
    static void bestHeatChangesNothing() {
        EnamelKiln x = cracked();
        EnamelKiln y = cracked();
        x.put(1, 1);
        y.put(1, 1);
        Due.is("bestHeat()", x.bestHeat(), 760);
        Due.same("behind bestHeat", x, y);
    }
}
