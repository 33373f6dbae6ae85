/** Promises 14 to 18, and 'Plans': the boundary cases, sentence by sentence. */
final class PlansEdgesTest {
    private static final int MIN = Integer.MIN_VALUE;
    private static final int MAX = Integer.MAX_VALUE;
    private static final int INVALID = -1;
    private static final int LIMIT = -3;
    private static final int NOT_FOUND = -4;

    public static void main(String[] args) throws ReflectiveOperationException {
        Due.runAll(PlansEdgesTest.class);
    }

    /** Colors of these melting and burning heats. */
    private static EnamelKiln withHeats(int... heats) {
        EnamelKiln x = new EnamelKiln();
        for (int i = 0; i + 1 < heats.length; i += 2) {
            Due.is("color", x.color(heats[i], heats[i + 1], 100), i / 2);
        }
        return x;
    }

    /** Colors of these pulls, which melt at 700 and burn above 800. */
    private static EnamelKiln withPulls(int... pulls) {
        EnamelKiln x = new EnamelKiln();
        for (int color = 0; color < pulls.length; color++) {
            Due.is("color", x.color(700, 800, 170 - pulls[color]), color);
        }
        return x;
    }

    private static EnamelKiln withFullWish(int field) {
        EnamelKiln x = withHeats(700, 800, 760, 820);
        wish(x, field, 1, 1);
        wish(x, field, 0, 2);
        wish(x, field, 1, 3);
        return x;
    }

    private static void wish(EnamelKiln x, int field, int color, int due) {
        Due.is("wish(" + field + ", " + color + ")", x.wish(field, color), due);
    }

    private static void wished(EnamelKiln x, int field, int index, int due) {
        Due.is("wished(" + field + ", " + index + ")", x.wished(field, index), due);
    }

    private static void planned(EnamelKiln x, int index, int what, int due) {
        Due.is("planned(" + index + ", " + what + ")", x.planned(index, what), due);
    }

    /** The wish of a field is these colors. */
    private static void want(EnamelKiln x, int field, int... colors) {
        x.wish(field, -1);
        for (int i = 0; i < colors.length; i++) {
            wish(x, field, colors[i], i + 1);
        }
    }

    /** The best plan is these firings: set, heat, set, heat, .. */
    private static void plan(EnamelKiln x, int... firings) {
        Due.is("leastFirings()", x.leastFirings(), firings.length / 2);
        for (int i = 0; i < firings.length; i++) {
            planned(x, i / 2, i % 2, firings[i]);
        }
        planned(x, firings.length / 2, 0, NOT_FOUND);
        planned(x, firings.length / 2, 1, NOT_FOUND);
    }

    private static void noPlan(EnamelKiln x) {
        Due.is("leastFirings()", x.leastFirings(), NOT_FOUND);
        planned(x, 0, 0, NOT_FOUND);
        planned(x, 0, 1, NOT_FOUND);
    }

    // ---- wish

    /**
     * Promise 14, Plans: "Each field of the front has a wish: 0 to 3 colors, for its layers from the metal
     * outward, initially none."
     */
    static void wishesFromNoneToThree() {
        EnamelKiln x = withHeats(700, 800, 760, 820);
        for (int field = 0; field <= 5; field++) {
            wished(x, field, 0, NOT_FOUND);
            wish(x, field, 1, 1);
            wish(x, field, 1, 2);
            wish(x, field, 0, 3);
            wish(x, field, 0, LIMIT);
            wished(x, field, 0, 1);
            wished(x, field, 1, 1);
            wished(x, field, 2, 0);
            wished(x, field, 3, NOT_FOUND);
        }
    }

    /** Promise 14: "Adds a color to the wish of a field, behind those that are there." */
    static void wishAddsBehind() {
        EnamelKiln x = withHeats(700, 800, 760, 820, 800, 900);
        wish(x, 3, 2, 1);
        wish(x, 4, 1, 1);
        wish(x, 3, 0, 2);
        wish(x, 3, 1, 3);
        wished(x, 3, 0, 2);
        wished(x, 3, 1, 0);
        wished(x, 3, 2, 1);
        wished(x, 4, 0, 1);
        wished(x, 4, 1, NOT_FOUND);
        wished(x, 2, 0, NOT_FOUND);
    }

    /** Promise 14: "`field`: 0 to 5" */
    static void wishFieldsFromNoughtToFive() {
        EnamelKiln x = withHeats(700, 800);
        wish(x, -1, 0, INVALID);
        wish(x, 0, 0, 1);
        wish(x, 5, 0, 1);
        wish(x, 6, 0, INVALID);
        wish(x, -1, -1, INVALID);
        wish(x, 6, -1, INVALID);
        Due.is("colors in wishes", x.count(20), 2);
    }

    /** Promise 14: "`color`: number of the color, or -1 to empty the wish" */
    static void wishColorsFromMinusOne() {
        EnamelKiln x = new EnamelKiln();
        wish(x, 0, 0, INVALID);
        wish(x, 0, -1, 0);
        for (int color = 0; color < 12; color++) {
            x.color(700, 800, 100);
            wish(x, 0, color + 1, INVALID);
        }
        wish(x, 0, -2, INVALID);
        wish(x, 0, 0, 1);
        wish(x, 0, 11, 2);
        wish(x, 0, 12, INVALID);
        wish(x, 0, -1, 0);
        wished(x, 0, 0, NOT_FOUND);
        wish(x, 0, -1, 0);
    }

    /** Promise 14: "or -1 to empty the wish" (one of each length; the others stay) */
    static void wishEmptiedFromEachLength() {
        for (int length = 0; length <= 3; length++) {
            EnamelKiln x = withHeats(700, 800);
            wish(x, 1, 0, 1);
            for (int i = 0; i < length; i++) {
                wish(x, 2, 0, i + 1);
            }
            wish(x, 2, -1, 0);
            wished(x, 2, 0, NOT_FOUND);
            wished(x, 1, 0, 0);
            wish(x, 2, 0, 1);
            wished(x, 2, 1, NOT_FOUND);
        }
    }

    /** Promise 14: "Returns how many colors it has then" */
    static void wishReturnsNoneToThree() {
        EnamelKiln x = withHeats(700, 800);
        wish(x, 5, -1, 0);
        wish(x, 5, 0, 1);
        wish(x, 5, 0, 2);
        wish(x, 5, 0, 3);
        wish(x, 4, 0, 1);
        wish(x, 5, -1, 0);
    }

    /** Promise 14: "INVALID_ARGUMENT if an argument is out of range" */
    static void wishOutOfRange() {
        EnamelKiln x = withHeats(700, 800);
        int[][] wrong = {
            {-1, 0}, {6, 0}, {MIN, 0}, {MAX, 0}, {MIN, -1}, {MAX, -1}, {0, 1}, {0, -2}, {0, MIN}, {0, MAX},
            {6, -2},
        };
        for (int[] w : wrong) {
            wish(x, w[0], w[1], INVALID);
        }
        Due.same("behind wrong ones", x, withHeats(700, 800));
    }

    /** Promise 14: "LIMIT_REACHED if it has 3 colors" */
    static void noFourthWish() {
        for (int field = 0; field <= 5; field++) {
            EnamelKiln x = withFullWish(field);
            wish(x, field, 0, LIMIT);
            wish(x, field, 1, LIMIT);
            wished(x, field, 2, 1);
            wish(x, (field + 1) % 6, 0, 1);
            wish(x, field, -1, 0);
            wish(x, field, 0, 1);
        }
    }

    // ---- wished

    /** Promise 15: "Returns a color of the wish of a field." */
    static void wishedChangesNothing() {
        EnamelKiln x = withFullWish(0);
        for (int index = -1; index <= 3; index++) {
            x.wished(0, index);
        }
        Due.same("behind wished", x, withFullWish(0));
    }

    /** Promise 15: "`field`: 0 to 5" */
    static void wishedFieldsFromNoughtToFive() {
        EnamelKiln x = withHeats(700, 800);
        wish(x, 0, 0, 1);
        wish(x, 5, 0, 1);
        wished(x, -1, 0, INVALID);
        wished(x, 0, 0, 0);
        wished(x, 5, 0, 0);
        wished(x, 6, 0, INVALID);
    }

    /** Promise 15: "`index`: 0 for the one at the metal, and so on" */
    static void wishedFromTheMetal() {
        EnamelKiln x = withFullWish(5);
        wished(x, 5, -1, INVALID);
        wished(x, 5, 0, 1);
        wished(x, 5, 1, 0);
        wished(x, 5, 2, 1);
        wished(x, 5, 3, NOT_FOUND);
    }

    /** Promise 15: "Returns the color" */
    static void wishedReturnsEachColor() {
        EnamelKiln x = new EnamelKiln();
        for (int color = 0; color < 12; color++) {
            x.color(700, 800, 100);
        }
        for (int color = 0; color < 12; color++) {
            wish(x, color / 2, color, 1 + color % 2);
        }
        for (int color = 0; color < 12; color++) {
            wished(x, color / 2, color % 2, color);
        }
    }

    /** Promise 15: "INVALID_ARGUMENT if field is out of range or index is negative" */
    static void wishedOutOfRange() {
        EnamelKiln x = withFullWish(0);
        int[][] wrong = {
            {-1, 0}, {6, 0}, {MIN, 0}, {MAX, 0}, {0, -1}, {0, -2}, {0, MIN}, {6, 3}, {-1, 3}, {6, -1},
        };
        for (int[] w : wrong) {
            wished(x, w[0], w[1], INVALID);
        }
    }

    /** Promise 15: "NOT_FOUND if there are not so many" */
    static void wishedThatThereIsNot() {
        for (int field = 0; field <= 5; field++) {
            EnamelKiln x = withHeats(700, 800);
            for (int length = 0; length < 3; length++) {
                wished(x, field, length, NOT_FOUND);
                wish(x, field, 0, length + 1);
                wished(x, field, length, 0);
                wished(x, field, length + 1, NOT_FOUND);
            }
            wished(x, field, 3, NOT_FOUND);
            wished(x, field, 4, NOT_FOUND);
            wished(x, field, MAX, NOT_FOUND);
        }
    }

    // ---- plans

    /** Promise 16, Plans: "A plan is made for a bare plate: it is a row of firings" (whatever stands on the plate) */
    static void planForABarePlate() {
        EnamelKiln x = withHeats(700, 800, 760, 820);
        want(x, 0, 0, 1);
        plan(x, 1, 700, 1, 760);
        x.put(0, 0);
        x.fire(700, 3);
        plan(x, 1, 700, 1, 760);
        x.put(0, 1);
        x.fire(760, 3);
        plan(x, 1, 700, 1, 760);
        x.put(0, 1);
        x.fire(1200, 3);
        plan(x, 1, 700, 1, 760);
    }

    /** Promise 17, Plans: "with each one the fields of some set (not empty) get the next layer of their wishes" */
    static void setsOfThoseThatHaveANextLayer() {
        EnamelKiln x = withHeats(700, 800);
        plan(x);
        want(x, 1, 0);
        plan(x, 2, 700);
        want(x, 4, 0, 0);
        plan(x, 16, 700, 18, 700);
        for (int field = 0; field <= 5; field++) {
            want(x, field, 0);
        }
        plan(x, 63, 700);
        for (int field = 0; field <= 5; field++) {
            want(x, field, 0, 0, 0);
        }
        plan(x, 63, 700, 63, 700, 63, 700);
    }

    /**
     * Promise 17, Plans: "and all of these colors melt at its heat (the heat is at least the melting heat
     * and at most the burning heat of each of them)"
     */
    static void togetherUpToTheBurningHeat() {
        EnamelKiln x = withHeats(700, 750, 750, 900, 751, 900);
        want(x, 0, 0);
        want(x, 1, 1);
        plan(x, 3, 750);
        want(x, 1, 2);
        plan(x, 2, 751, 1, 700);
        want(x, 2, 1);
        plan(x, 2, 751, 5, 750);
        EnamelKiln y = withHeats(600, 800, 900, 1100, 801, 900, 800, 900);
        want(y, 2, 0);
        want(y, 5, 3);
        plan(y, 36, 800);
        want(y, 5, 2);
        plan(y, 32, 801, 4, 600);
    }

    /**
     * Promise 17, Plans: "and no color that was put by an earlier firing of this plan burns (the heat is
     * at most its burning heat)."
     */
    static void noEarlierOneBurns() {
        EnamelKiln x = withHeats(700, 750, 750, 900, 751, 900);
        want(x, 0, 0, 1);
        plan(x, 1, 700, 1, 750);
        want(x, 0, 0, 2);
        noPlan(x);
        want(x, 0, 2, 0);
        plan(x, 1, 751, 1, 700);
        // Also one of another field that was put two firings ahead.
        want(x, 0, 0);
        want(x, 1, 1, 1, 2);
        plan(x, 2, 750, 2, 750, 2, 751, 1, 700);
        want(x, 1, 1, 1, 1);
        plan(x, 2, 750, 2, 750, 3, 750);
    }

    /** Promise 17, Plans: "no color that was put by an earlier firing of this plan burns" (each layer of each field) */
    static void noEarlierOneBurnsWhereverItIs() {
        for (int field = 0; field <= 5; field++) {
            int other = (field + 1) % 6;
            for (int thin = 0; thin <= 1; thin++) {
                // The color 0 burns above 750, the color 1 does not; then the color 2 melts at 760.
                EnamelKiln x = withHeats(700, 750, 700, 900, 760, 900);
                want(x, field, thin == 0 ? 0 : 1, thin == 1 ? 0 : 1, 2);
                noPlan(x);
                want(x, field, thin == 0 ? 0 : 1, thin == 1 ? 0 : 1, 1);
                want(x, other, 2);
                // That of the other field goes ahead of the thin one, with the stouter one if this is first.
                if (thin == 0) {
                    plan(x, 1 << other, 760, 1 << field, 700, 1 << field, 700, 1 << field, 700);
                } else {
                    plan(x, 1 << field | 1 << other, 760, 1 << field, 700, 1 << field, 700);
                }
            }
            EnamelKiln y = withHeats(700, 750, 700, 900, 760, 900);
            want(y, field, 1, 1, 0);
            want(y, other, 2, 2, 2);
            Due.is("the thin one last", y.leastFirings(), 4);
            Due.is("set of the last", y.planned(3, 0), 1 << field);
        }
    }

    /** Promise 17, Plans: "no color that was put by an earlier firing of this plan burns" (by one that gets too hot) */
    static void noPlanIfEachShutsTheOtherOut() {
        EnamelKiln x = withHeats(700, 750, 760, 900);
        want(x, 0, 0, 1);
        noPlan(x);
        want(x, 0, 1, 0);
        want(x, 1, 1, 0);
        plan(x, 3, 760, 3, 700);
        want(x, 1, 0, 1);
        noPlan(x);
        want(x, 1, 0);
        plan(x, 1, 760, 3, 700);
    }

    /** Promise 16, Plans: "Behind the plan all wishes are fulfilled." */
    static void allWishesAreFulfilled() {
        EnamelKiln x = withHeats(700, 800, 760, 820);
        want(x, 0, 0);
        want(x, 3, 1, 0, 1);
        want(x, 5, 0, 0);
        Due.is("leastFirings()", x.leastFirings(), 3);
        int[] layers = new int[6];
        for (int index = 0; index < 3; index++) {
            for (int field = 0; field <= 5; field++) {
                layers[field] += x.planned(index, 0) >> field & 1;
            }
        }
        int[] due = {1, 0, 0, 3, 0, 2};
        for (int field = 0; field <= 5; field++) {
            Due.is("layers of " + field, layers[field], due[field]);
        }
    }

    /** Promise 16, Plans: "(Softenings, grains and strains do not matter to it.)" */
    static void softeningsAndStrainsDoNotMatter() {
        EnamelKiln x = withHeats(700, 900, 740, 900);
        x.set(0, 10);
        x.set(1, 0);
        x.set(2, 0);
        want(x, 0, 1, 0, 1);
        want(x, 1, 0, 1, 0);
        plan(x, 3, 740, 3, 740, 3, 740);
    }

    /** Promise 16, Plans: "The best plan is one with the fewest firings" */
    static void fewestFirings() {
        // With the least set first, the one of 0 alone, none but four firings would do.
        EnamelKiln x = withHeats(700, 800, 760, 820);
        want(x, 0, 0);
        want(x, 1, 1);
        want(x, 2, 1, 1, 0);
        plan(x, 4, 760, 4, 760, 7, 760);
        want(x, 0, 0, 0, 0);
        plan(x, 5, 760, 5, 760, 7, 760);
        EnamelKiln y = withHeats(900, 910, 800, 899, 700, 799);
        want(y, 0, 2);
        want(y, 1, 1);
        want(y, 2, 0);
        plan(y, 4, 900, 2, 800, 1, 700);
    }

    /**
     * Promise 17, Plans: "of several the one whose first firing has the set with the least bit mask (field
     * k: bit k), then the second one, and so on."
     */
    static void leastSetsFirst() {
        EnamelKiln x = withHeats(700, 800);
        want(x, 1, 0, 0, 0);
        want(x, 0, 0);
        plan(x, 2, 700, 2, 700, 3, 700);
        want(x, 0, 0, 0);
        plan(x, 2, 700, 3, 700, 3, 700);
        want(x, 1, 0);
        plan(x, 1, 700, 3, 700);
        want(x, 0, 0);
        want(x, 1, 0, 0);
        plan(x, 2, 700, 3, 700);
        want(x, 5, 0, 0);
        plan(x, 34, 700, 35, 700);
        want(x, 0);
        want(x, 1, 0);
        want(x, 2, 0);
        plan(x, 32, 700, 38, 700);
    }

    /** Promise 17, Plans: "of several the one whose first firing has the set with the least bit mask" (heats aside) */
    static void leastSetsRatherThanLeastHeats() {
        EnamelKiln x = withHeats(700, 900, 800, 900);
        want(x, 0, 1);
        want(x, 1, 0, 0);
        plan(x, 2, 700, 3, 800);
        want(x, 1, 1);
        want(x, 0, 0, 0);
        plan(x, 1, 700, 3, 800);
        EnamelKiln y = withHeats(800, 900, 700, 790, 900, 1000);
        want(y, 0, 0);
        want(y, 1, 2);
        want(y, 2, 1);
        plan(y, 3, 900, 4, 700);
        EnamelKiln z = withHeats(800, 810, 820, 830);
        want(z, 0, 1);
        want(z, 1, 0);
        plan(z, 1, 820, 2, 800);
        want(z, 0, 0);
        want(z, 1, 1);
        plan(z, 2, 820, 1, 800);
    }

    /** Promise 17, Plans: "The heat of a firing is the least possible one." */
    static void leastHeats() {
        EnamelKiln x = withHeats(600, 800, 900, 1100, 750, 950, 700, 900);
        want(x, 0, 0);
        plan(x, 1, 600);
        want(x, 1, 2);
        want(x, 2, 3);
        plan(x, 7, 750);
        want(x, 0, 1);
        plan(x, 7, 900);
        want(x, 1);
        want(x, 2);
        plan(x, 1, 900);
        // What was put ahead bounds the heat from above only.
        want(x, 0, 1, 0);
        plan(x, 1, 900, 1, 600);
    }

    /** Promise 16: "Returns the number of firings of the best plan." */
    static void leastFiringsFromNoneTo18() {
        for (int wishes = 0; wishes <= 18; wishes++) {
            EnamelKiln x = new EnamelKiln();
            for (int field = 0; field < 6; field++) {
                x.color(700 + 11 * field, 710 + 11 * field, 100);
            }
            for (int i = 0; i < wishes; i++) {
                x.wish(i / 3, i / 3);
            }
            Due.is("leastFirings() of " + wishes, x.leastFirings(), wishes);
            planned(x, wishes, 0, NOT_FOUND);
            if (wishes > 0) {
                planned(x, 0, 1, 700 + 11 * ((wishes - 1) / 3));
                planned(x, wishes - 1, 1, 700);
                planned(x, wishes - 1, 0, 1);
            }
        }
    }

    /** Promise 16: "Returns the number, 0 if there are no wishes" */
    static void leastFiringsWithoutWishes() {
        Due.is("without colors", new EnamelKiln().leastFirings(), 0);
        EnamelKiln x = withHeats(700, 750, 760, 900);
        Due.is("without wishes", x.leastFirings(), 0);
        wish(x, 0, 0, 1);
        Due.is("with one", x.leastFirings(), 1);
        wish(x, 0, 1, 2);
        Due.is("without a plan", x.leastFirings(), NOT_FOUND);
        wish(x, 0, -1, 0);
        Due.is("without wishes again", x.leastFirings(), 0);
        planned(x, 0, 0, NOT_FOUND);
    }

    /** Promise 16: "NOT_FOUND if there is no plan" */
    static void leastFiringsWithoutAPlan() {
        for (int field = 0; field <= 5; field++) {
            EnamelKiln x = withHeats(700, 750, 750, 900, 751, 900);
            wish(x, field, 0, 1);
            wish(x, field, 0, 2);
            wish(x, field, 2, 3);
            wish(x, (field + 1) % 6, 0, 1);
            Due.is("the third would burn the first", x.leastFirings(), NOT_FOUND);
            x.undo();
            x.undo();
            wish(x, field, 1, 3);
            Due.is("the third melts at the heat", x.leastFirings(), 3);
        }
    }

    /** Promise 17: "Returns something of a firing of the best plan." */
    static void plannedChangesNothing() {
        EnamelKiln x = withFullWish(0);
        planned(x, 0, 0, 1);
        x.leastFirings();
        x.planned(3, 0);
        x.planned(-1, 2);
        Due.same("behind planned", x, withFullWish(0));
    }

    /** Promise 17: "`index`: 0 for the first one, and so on" */
    static void plannedFromTheFirstOn() {
        EnamelKiln x = withHeats(700, 750, 800, 850);
        want(x, 0, 1, 0);
        want(x, 1, 0);
        planned(x, -1, 1, INVALID);
        planned(x, 0, 1, 800);
        planned(x, 1, 1, 700);
        planned(x, 2, 1, NOT_FOUND);
    }

    /** Promise 17: "`what`: 0: the set of its fields, as a bit mask; 1: its heat" */
    static void plannedNoughtAndOne() {
        EnamelKiln x = withHeats(700, 750);
        want(x, 0, 0);
        want(x, 5, 0);
        planned(x, 0, -1, INVALID);
        planned(x, 0, 0, 33);
        planned(x, 0, 1, 700);
        planned(x, 0, 2, INVALID);
    }

    /** Promise 17: "0: the set of its fields, as a bit mask" (each field alone, all six) */
    static void plannedSetOfEachField() {
        for (int field = 0; field <= 5; field++) {
            EnamelKiln x = withHeats(700, 750);
            want(x, field, 0);
            plan(x, 1 << field, 700);
        }
    }

    /** Promise 17: "Returns that" (also when the wishes, or by undo the colors, have changed) */
    static void plannedFollowsTheWishes() {
        EnamelKiln x = withHeats(700, 750);
        want(x, 0, 0);
        plan(x, 1, 700);
        wish(x, 0, 0, 2);
        plan(x, 1, 700, 1, 700);
        x.undo();
        plan(x, 1, 700);
        Due.type(x, "0=;3=a;");
        Due.is("read()", x.read(), 2);
        plan(x, 8, 700);
        x.undo();
        plan(x, 1, 700);
        x.color(600, 650, 100);
        plan(x, 1, 700);
        EnamelKiln y = new EnamelKiln();
        y.color(700, 750, 100);
        y.wish(0, 0);
        plan(y, 1, 700);
        y.undo();
        y.undo();
        plan(y);
        y.color(650, 700, 100);
        y.wish(0, 0);
        plan(y, 1, 650);
    }

    /** Promise 17: "INVALID_ARGUMENT if index is negative or what is out of range" */
    static void plannedOutOfRange() {
        EnamelKiln none = withHeats(700, 750, 760, 900);
        want(none, 0, 0, 1);
        for (EnamelKiln x : new EnamelKiln[] {new EnamelKiln(), withFullWish(0), none}) {
            int[][] wrong = {
                {-1, 0}, {-2, 1}, {MIN, 0}, {0, -1}, {0, 2}, {0, MIN}, {0, MAX}, {3, 2}, {MAX, 2}, {-1, 2},
            };
            for (int[] w : wrong) {
                planned(x, w[0], w[1], INVALID);
            }
        }
    }

    /** Promise 17: "NOT_FOUND if there are not so many, or there is no plan" */
    static void plannedThatThereIsNot() {
        EnamelKiln x = withHeats(700, 750, 760, 900);
        planned(x, 0, 0, NOT_FOUND);
        planned(x, 0, 1, NOT_FOUND);
        for (int length = 1; length <= 3; length++) {
            wish(x, 2, 0, length);
            planned(x, length - 1, 1, 700);
            planned(x, length, 1, NOT_FOUND);
            planned(x, length + 1, 0, NOT_FOUND);
            planned(x, 17, 0, NOT_FOUND);
            planned(x, 18, 0, NOT_FOUND);
            planned(x, MAX, 1, NOT_FOUND);
        }
        want(x, 2, 0, 0, 1);
        for (int index : new int[] {0, 1, 2, 3, MAX}) {
            planned(x, index, 0, NOT_FOUND);
            planned(x, index, 1, NOT_FOUND);
        }
    }

    // ---- counter

    /**
     * Promise 18: "Returns the color that would balance the plate best as a further smooth layer on the
     * back: with which the greatest strain of all six fields of the front (also those without layers) is
     * least (whether there is room for it or not)."
     */
    static void counterBalancesBest() {
        EnamelKiln x = withPulls(20, 60, 100);
        Due.is("of a bare plate the least pull", x.counter(), 0);
        for (int field = 0; field <= 5; field++) {
            x.put(field, 2);
        }
        Due.is("raw ones do not pull", x.counter(), 0);
        x.fire(700, 3);
        Due.is("100 everywhere", x.counter(), 2);
        x.put(6, 1);
        Due.is("raw ones do not pull on the back", x.counter(), 2);
        x.fire(700, 3);
        Due.is("60 on the back: 80 rather than 120", x.counter(), 0);
    }

    /** Promise 18: "(also those without layers)" */
    static void counterHeedsBareFields() {
        EnamelKiln x = withPulls(20, 60, 100);
        for (int field = 0; field <= 4; field++) {
            x.put(field, 2);
        }
        x.fire(700, 3);
        Due.is("0 and 100", x.counter(), 1);
        x.put(5, 2);
        x.fire(700, 3);
        Due.is("100 everywhere", x.counter(), 2);
    }

    /** Promise 18: "the greatest strain of all six fields of the front" (each of them may be it) */
    static void counterHeedsEachField() {
        for (int field = 0; field <= 5; field++) {
            EnamelKiln x = withPulls(20, 60, 110);
            x.put(field, 2);
            x.fire(700, 3);
            Due.is("110 on " + field, x.counter(), 1);
            x.put(field, 2);
            x.fire(700, 3);
            Due.is("220 on " + field, x.counter(), 2);
        }
    }

    /** Promise 18: "(whether there is room for it or not)" */
    static void counterWithoutRoom() {
        EnamelKiln x = withPulls(110, 10);
        for (int layer = 0; layer < 3; layer++) {
            Due.is("put on the back", x.put(6, 1), layer);
            x.put(0, 0);
            x.fire(700, 3);
            // Against 0 and 110, 220, 330 in front: 20 or 120, 30 or 130, 40 or 140 on the back.
            Due.is("counter() with " + (layer + 1), x.counter(), layer == 0 ? 1 : 0);
        }
        Due.is("a fourth", x.put(6, 1), LIMIT);
        Due.is("counter() without room", x.counter(), 0);
        EnamelKiln y = withPulls(10, 110);
        y.put(6, 0);
        y.put(0, 1);
        Due.is("counter() on a raw one", y.counter(), 0);
    }

    /** Promise 18: "Returns the color, of several the one with the least number" */
    static void counterOfSeveralTheLeast() {
        EnamelKiln x = withPulls(80, 20, 80, 20);
        Due.is("two of 20", x.counter(), 1);
        for (int field = 0; field <= 5; field++) {
            x.put(field, 0);
        }
        x.fire(700, 3);
        Due.is("two of 80", x.counter(), 0);
        EnamelKiln y = withPulls(60, 40, 50);
        for (int field = 0; field <= 5; field++) {
            y.put(field, 2);
        }
        y.fire(700, 3);
        Due.is("balanced", y.counter(), 2);
        y = withPulls(60, 40, 50);
        y.undo();
        y.put(0, 0);
        y.put(1, 1);
        y.fire(700, 3);
        Due.is("bare ones: 40", y.counter(), 1);
        y = new EnamelKiln();
        for (int color = 0; color < 12; color++) {
            Due.is("counter() of " + color, y.counter(), color == 0 ? NOT_FOUND : 0);
            y.color(700, 800, 100);
        }
        y.undo();
        y.color(700, 800, 101);
        Due.is("the twelfth pulls least", y.counter(), 11);
    }

    /** Promise 18: "is least" (a strain of 0 is less than one of 1) */
    static void counterOfNoughtBeforeOne() {
        for (int[] pulls : new int[][] {{49, 50}, {51, 50}}) {
            EnamelKiln x = withPulls(pulls);
            for (int field = 0; field <= 5; field++) {
                x.put(field, 1);
            }
            x.fire(700, 3);
            Due.is("50 for 50", x.counter(), 1);
        }
    }

    /** Promise 18: "of several the one with the least number" (strains from both sides are equal) */
    static void counterFromBothSides() {
        for (int[] pulls : new int[][] {{40, 60, 25}, {60, 40, 25}}) {
            EnamelKiln x = withPulls(pulls);
            for (int layer = 0; layer < 2; layer++) {
                for (int field = 0; field <= 5; field++) {
                    Due.is("put", x.put(field, 2), layer);
                }
                x.fire(700, 3);
            }
            Due.is("40 or 60 for 50", x.counter(), 0);
        }
    }

    /** Promise 18: "NOT_FOUND if there is no color" */
    static void counterWithoutColors() {
        EnamelKiln x = new EnamelKiln();
        Due.is("counter()", x.counter(), NOT_FOUND);
        x.color(700, 800, 160);
        Due.is("counter() of one", x.counter(), 0);
        x.undo();
        Due.is("counter() of none again", x.counter(), NOT_FOUND);
    }

    /** Promise 18: "Returns the color" (nothing changes by it) */
    static void counterChangesNothing() {
        EnamelKiln x = withPulls(20, 60);
        EnamelKiln y = withPulls(20, 60);
        x.put(0, 1);
        y.put(0, 1);
        x.fire(700, 3);
        y.fire(700, 3);
        Due.is("counter()", x.counter(), 0);
        Due.same("behind counter", x, y);
    }
}
