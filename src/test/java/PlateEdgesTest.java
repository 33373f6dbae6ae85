/** Promises 4 to 10, 'Plate' and 'Accounts': the boundary cases, sentence by sentence. */
final class PlateEdgesTest {
    private static final int MIN = Integer.MIN_VALUE;
    private static final int MAX = Integer.MAX_VALUE;
    private static final int INVALID = -1;
    private static final int IMPOSSIBLE = -2;
    private static final int LIMIT = -3;
    private static final int NOT_FOUND = -4;
    private static final int RAW = 0;
    private static final int GRAINY = 1;
    private static final int SMOOTH = 2;
    private static final int DULL = 3;
    private static final int BURNT = 4;

    public static void main(String[] args) throws ReflectiveOperationException {
        Due.runAll(PlateEdgesTest.class);
    }

    /** The color 0 melts at 700, burns above 800, pulls by 70; the color 1: 760, 900, 10. */
    private static EnamelKiln withColors() {
        EnamelKiln x = new EnamelKiln();
        x.color(700, 800, 100);
        x.color(760, 900, 160);
        return x;
    }

    private static EnamelKiln withLayer(int field, int state) {
        return Begun.withLayer(withColors(), field, state);
    }

    /** Three layers of the color 0, the outermost one raw, on the field. */
    private static EnamelKiln withThree(int field) {
        EnamelKiln x = withColors();
        x.put(field, 0);
        x.fire(660, 1);
        x.put(field, 0);
        x.fire(660, 1);
        Due.is("the third", x.put(field, 0), 2);
        return x;
    }

    private static EnamelKiln withFullPlate() {
        return Begun.withFullPlate(withColors());
    }

    private static void field(EnamelKiln x, int field, int what, int due) {
        Due.is("field(" + field + ", " + what + ")", x.field(field, what), due);
    }

    private static void layer(EnamelKiln x, int field, int layer, int what, int due) {
        Due.is("layer(" + field + ", " + layer + ", " + what + ")", x.layer(field, layer, what), due);
    }

    private static void count(EnamelKiln x, int what, int due) {
        Due.is("count(" + what + ")", x.count(what), due);
    }

    private static void put(EnamelKiln x, int field, int color, int due) {
        Due.is("put(" + field + ", " + color + ")", x.put(field, color), due);
    }

    private static void takeOff(EnamelKiln x, int field, int due) {
        Due.is("takeOff(" + field + ")", x.takeOff(field), due);
    }

    // ---- the plate

    /** Promise 4, Plate: "The plate has the fields 0 to 5 on its front, and the field 6, which is its back." */
    static void fieldsFromNoughtToSix() {
        EnamelKiln x = withColors();
        put(x, -1, 0, INVALID);
        for (int field = 0; field <= 6; field++) {
            put(x, field, 0, 0);
            field(x, field, 3, field <= 5 ? 0 : NOT_FOUND);
        }
        put(x, 7, 0, INVALID);
        Due.is("wish(5, 0)", x.wish(5, 0), 1);
        Due.is("wish(6, 0) of the back", x.wish(6, 0), INVALID);
    }

    /** Promise 4, Plate: "A field has at most 3 layers, numbered from 0 at the metal outward." */
    static void threeLayersFromTheMetalOutward() {
        for (int field = 0; field <= 6; field++) {
            EnamelKiln x = withColors();
            x.color(650, 850, 100);
            put(x, field, 2, 0);
            x.fire(660, 1);
            put(x, field, 0, 1);
            x.fire(660, 1);
            put(x, field, 1, 2);
            x.fire(720, 1);
            put(x, field, 0, LIMIT);
            layer(x, field, 0, 0, 2);
            layer(x, field, 1, 0, 0);
            layer(x, field, 2, 0, 1);
            layer(x, field, 3, 0, NOT_FOUND);
        }
    }

    /** Promise 7, Plate: "A layer has a color, a state and softenings, initially 0." */
    static void layerInitiallyNought() {
        EnamelKiln x = withLayer(2, DULL);
        layer(x, 2, 0, 2, 1);
        x.put(2, 1);
        layer(x, 2, 1, 0, 1);
        layer(x, 2, 1, 1, RAW);
        layer(x, 2, 1, 2, 0);
        x.clean();
        x.put(2, 1);
        layer(x, 2, 0, 0, 1);
        layer(x, 2, 0, 1, RAW);
        layer(x, 2, 0, 2, 0);
    }

    /** Promise 7, Plate: "The states are 0 raw, 1 grainy, 2 smooth, 3 dull, 4 burnt." */
    static void statesFromNoughtToFour() {
        for (int field = 0; field <= 6; field += 3) {
            for (int state = RAW; state <= BURNT; state++) {
                EnamelKiln x = withLayer(field, state);
                layer(x, field, 0, 1, state);
                for (int other = RAW; other <= BURNT; other++) {
                    count(x, 2 + other, other == state ? 1 : 0);
                }
            }
        }
    }

    /** Promise 4, Plate: "A layer can be put on a field if there is room and no layer of the field is raw." */
    static void putOnAllButRawOnes() {
        for (int state = RAW; state <= BURNT; state++) {
            EnamelKiln x = withLayer(4, state);
            put(x, 4, 1, state == RAW ? IMPOSSIBLE : 1);
            put(x, 5, 1, 0);
        }
    }

    /** Promise 4, Plate: "One that is put is raw." */
    static void onePutIsRaw() {
        for (int state = GRAINY; state <= BURNT; state++) {
            EnamelKiln x = withLayer(6, state);
            x.put(6, 0);
            layer(x, 6, 1, 1, RAW);
            layer(x, 6, 0, 1, state);
        }
    }

    /** Promise 5, Plate: "The outermost layer can be taken off only while it is raw." */
    static void onlyTheOutermostWhileRaw() {
        for (int state = RAW; state <= BURNT; state++) {
            EnamelKiln x = withLayer(0, state);
            takeOff(x, 0, state == RAW ? 0 : IMPOSSIBLE);
            field(x, 0, 0, state == RAW ? 0 : 1);
        }
        EnamelKiln x = withThree(0);
        takeOff(x, 0, 0);
        takeOff(x, 0, IMPOSSIBLE);
        field(x, 0, 0, 2);
    }

    // ---- put

    /** Promise 4: "Puts a layer on a field." */
    static void putPutsOne() {
        EnamelKiln x = withColors();
        put(x, 3, 1, 0);
        count(x, 1, 1);
        count(x, 2, 1);
        count(x, 13, 1);
        layer(x, 3, 0, 0, 1);
        for (int field = 0; field <= 6; field++) {
            field(x, field, 0, field == 3 ? 1 : 0);
        }
    }

    /** Promise 4: "`field`: 0 to 6" */
    static void putOnFieldsFromNoughtToSix() {
        EnamelKiln x = withColors();
        put(x, -1, 0, INVALID);
        put(x, 0, 0, 0);
        put(x, 6, 0, 0);
        put(x, 7, 0, INVALID);
        put(x, MIN, 0, INVALID);
        put(x, MAX, 0, INVALID);
        count(x, 1, 2);
    }

    /** Promise 4: "`color`: number of the color" */
    static void putColorsThatThereAre() {
        EnamelKiln x = new EnamelKiln();
        put(x, 0, 0, INVALID);
        for (int color = 0; color < 12; color++) {
            x.color(700, 800, 100);
            put(x, 0, color + 1, INVALID);
        }
        put(x, 0, -1, INVALID);
        put(x, 0, 0, 0);
        put(x, 1, 11, 0);
        put(x, 2, 12, INVALID);
        x.undo();
        x.undo();
        x.undo();
        put(x, 2, 11, INVALID);
        put(x, 2, 10, 0);
    }

    /** Promise 4: "Returns the number of the layer" */
    static void putReturnsNoughtToTwo() {
        for (int field = 0; field <= 6; field++) {
            EnamelKiln x = withColors();
            for (int layer = 0; layer < 3; layer++) {
                put(x, field, 0, layer);
                x.fire(660, 1);
            }
        }
        EnamelKiln x = withLayer(0, BURNT);
        put(x, 0, 1, 1);
        takeOff(x, 0, 1);
        put(x, 0, 0, 1);
        x.clean();
        put(x, 0, 0, 0);
    }

    /** Promise 4: "INVALID_ARGUMENT if an argument is out of range" */
    static void putOutOfRange() {
        EnamelKiln x = withColors();
        int[][] wrong = {{-1, 0}, {7, 0}, {MIN, 0}, {MAX, 0}, {0, -1}, {0, 2}, {0, MIN}, {0, MAX}, {7, 2}};
        for (int[] w : wrong) {
            put(x, w[0], w[1], INVALID);
        }
        count(x, 1, 0);
        count(x, 13, 0);
        count(x, 21, 2);
    }

    /** Promise 4: "NOT_POSSIBLE if a layer of the field is raw" */
    static void putOnRaw() {
        for (int field = 0; field <= 6; field++) {
            EnamelKiln x = withColors();
            put(x, field, 0, 0);
            put(x, field, 0, IMPOSSIBLE);
            x.fire(659, 20);
            put(x, field, 0, IMPOSSIBLE);
            x.fire(660, 1);
            put(x, field, 1, 1);
            x.fire(700, 3);
            put(x, field, 0, IMPOSSIBLE);
            takeOff(x, field, 1);
            put(x, field, 0, 1);
        }
    }

    /** Promise 4: "LIMIT_REACHED if it has 3 layers" */
    static void putOnThree() {
        for (int field = 0; field <= 6; field += 2) {
            EnamelKiln x = withThree(field);
            put(x, field, 0, IMPOSSIBLE);
            x.fire(660, 1);
            put(x, field, 0, LIMIT);
            x.fire(700, 3);
            put(x, field, 0, LIMIT);
            x.fire(801, 3);
            put(x, field, 0, LIMIT);
            field(x, field, 0, 3);
            put(x, (field + 1) % 7, 0, 0);
        }
    }

    // ---- takeOff

    /** Promise 5: "Takes the outermost layer off, which is raw." */
    static void takeOffTakesOne() {
        EnamelKiln x = withLayer(2, SMOOTH);
        x.put(2, 1);
        x.put(3, 1);
        takeOff(x, 2, 1);
        field(x, 2, 0, 1);
        layer(x, 2, 0, 0, 0);
        layer(x, 2, 0, 1, SMOOTH);
        layer(x, 2, 1, 0, NOT_FOUND);
        field(x, 3, 0, 1);
        count(x, 1, 2);
        count(x, 13, 3);
        count(x, 14, 1);
    }

    /** Promise 5: "`field`: 0 to 6" */
    static void takeOffFieldsFromNoughtToSix() {
        EnamelKiln x = withColors();
        x.put(0, 0);
        x.put(6, 1);
        takeOff(x, -1, INVALID);
        takeOff(x, 0, 0);
        takeOff(x, 6, 1);
        takeOff(x, 7, INVALID);
    }

    /** Promise 5: "Returns its color" */
    static void takeOffReturnsTheColor() {
        EnamelKiln x = new EnamelKiln();
        for (int color = 0; color < 12; color++) {
            x.color(700, 800, 100);
            x.put(color % 7, color);
            takeOff(x, color % 7, color);
        }
        EnamelKiln y = withThree(5);
        takeOff(y, 5, 0);
        y.put(5, 1);
        takeOff(y, 5, 1);
    }

    /** Promise 5: "INVALID_ARGUMENT if field is out of range" */
    static void takeOffOutOfRange() {
        EnamelKiln x = withColors();
        x.put(0, 0);
        x.put(6, 0);
        for (int field : new int[] {MIN, -7, -1, 7, 8, MAX}) {
            takeOff(x, field, INVALID);
        }
        count(x, 1, 2);
    }

    /** Promise 5: "NOT_POSSIBLE if there is none, or it is not raw" */
    static void takeOffNoneOrNotRaw() {
        for (int field = 0; field <= 6; field++) {
            takeOff(withColors(), field, IMPOSSIBLE);
            for (int state = GRAINY; state <= BURNT; state++) {
                takeOff(withLayer(field, state), field, IMPOSSIBLE);
            }
            EnamelKiln x = withLayer(field, RAW);
            takeOff(x, field, 0);
            takeOff(x, field, IMPOSSIBLE);
        }
    }

    // ---- clean

    /** Promise 6: "Cleans the plate." */
    static void cleanMakesBare() {
        EnamelKiln x = withFullPlate();
        x.clean();
        for (int field = 0; field <= 6; field++) {
            field(x, field, 0, 0);
            field(x, field, 1, 0);
            layer(x, field, 0, 0, NOT_FOUND);
            put(x, field, 0, 0);
        }
    }

    /** Promise 6: "Returns how many layers were on it." */
    static void cleanReturnsNoneTo21() {
        EnamelKiln x = withColors();
        Due.is("clean() of a bare plate", x.clean(), 0);
        x.put(6, 0);
        Due.is("clean() of one on the back", x.clean(), 1);
        Due.is("clean() again", x.clean(), 0);
        Due.is("clean() of a full plate", withFullPlate().clean(), 21);
        Due.is("clean() of a burnt one", withLayer(3, BURNT).clean(), 1);
        x.put(1, 0);
        x.put(2, 0);
        x.takeOff(1);
        Due.is("clean() of one less", x.clean(), 1);
    }

    /**
     * Promise 6, Accounts: "When the plate is cleaned, all fields are empty and not cracked; the accounts
     * 2 and 3 become 0, the others stay."
     */
    static void cleanEmptiesTwoAccounts() {
        EnamelKiln x = withColors();
        x.set(1, 0);
        x.set(2, 0);
        for (int field = 0; field <= 5; field++) {
            x.put(field, 0);
        }
        x.put(6, 1);
        x.takeOff(6);
        x.fire(700, 3);
        x.fire(700, 4);
        x.fire(801, 5);
        count(x, 7, 6);
        int[] before = {3, 12, 7, 1, 6, 6, 6, 12, 6};
        for (int account = 0; account < 9; account++) {
            count(x, 11 + account, before[account]);
        }
        Due.is("clean()", x.clean(), 6);
        for (int account = 0; account < 9; account++) {
            count(x, 11 + account, account == 2 || account == 3 ? 0 : before[account]);
        }
        for (int field = 0; field <= 5; field++) {
            field(x, field, 0, 0);
            field(x, field, 3, 0);
        }
        count(x, 7, 0);
    }

    /**
     * Promise 10, Accounts: "(The layers on the plate are those that were put, less those that were taken
     * off, since it was cleaned.)"
     */
    static void layersArePutLessTakenOff() {
        EnamelKiln x = withColors();
        x.put(0, 0);
        x.put(1, 0);
        x.put(2, 0);
        x.takeOff(1);
        count(x, 1, 2);
        count(x, 13, 3);
        count(x, 14, 1);
        x.clean();
        count(x, 1, 0);
        count(x, 13, 0);
        count(x, 14, 0);
        x.put(0, 0);
        x.takeOff(0);
        x.put(0, 0);
        count(x, 1, 1);
        count(x, 13, 2);
        count(x, 14, 1);
    }

    /**
     * Promise 10, Accounts: "0 firings, 1 minutes of them together, 2 layers that were put, 3 layers that
     * were taken off, 4 layers that became smooth (each time), 5 layers that became dull, 6 layers that
     * burnt, 7 cracks, 8 cracks that were mended."
     */
    static void accountsCountEachTime() {
        EnamelKiln x = withColors();
        x.set(1, 0);
        x.set(2, 60);
        x.put(0, 0);
        x.fire(700, 3);
        int[] one = {1, 3, 1, 0, 1, 0, 0, 1, 0};
        for (int account = 0; account < 9; account++) {
            count(x, 11 + account, one[account]);
        }
        x.put(1, 0);
        x.put(6, 1);
        x.takeOff(6);
        x.fire(700, 20);
        int[] two = {2, 23, 3, 1, 2, 1, 0, 3, 1};
        for (int account = 0; account < 9; account++) {
            count(x, 11 + account, two[account]);
        }
        x.fire(500, 1);
        x.fire(801, 1);
        x.fire(801, 1);
        int[] three = {5, 26, 3, 1, 2, 1, 2, 3, 1};
        for (int account = 0; account < 9; account++) {
            count(x, 11 + account, three[account]);
        }
    }

    // ---- layer

    /** Promise 7: "`field`: 0 to 6" */
    static void layerOfFieldsFromNoughtToSix() {
        EnamelKiln x = withColors();
        x.put(0, 1);
        x.put(6, 1);
        layer(x, -1, 0, 0, INVALID);
        layer(x, 0, 0, 0, 1);
        layer(x, 6, 0, 0, 1);
        layer(x, 7, 0, 0, INVALID);
    }

    /** Promise 7: "`layer`: its number" */
    static void layerByItsNumber() {
        EnamelKiln x = withThree(1);
        x.takeOff(1);
        x.put(1, 1);
        layer(x, 1, -1, 0, INVALID);
        layer(x, 1, 0, 1, GRAINY);
        layer(x, 1, 1, 0, 0);
        layer(x, 1, 2, 0, 1);
        layer(x, 1, 2, 1, RAW);
        layer(x, 1, 3, 0, NOT_FOUND);
    }

    /** Promise 7: "`what`: 0: its color; 1: its state; 2: its softenings" */
    static void layerFromNoughtToTwo() {
        EnamelKiln x = withColors();
        x.put(6, 1);
        x.fire(760, 3);
        x.fire(740, 1);
        int[] due = {INVALID, 1, SMOOTH, 1, INVALID};
        for (int what = -1; what <= 3; what++) {
            layer(x, 6, 0, what, due[what + 1]);
        }
    }

    /** Promise 7: "Returns a property of a layer." */
    static void layerChangesNothing() {
        EnamelKiln x = withLayer(0, DULL);
        for (int what = 0; what <= 2; what++) {
            x.layer(0, 0, what);
        }
        Due.same("behind layer", x, withLayer(0, DULL));
    }

    /** Promise 7: "Returns the property" (the softenings go on above the setting, and stay with burning) */
    static void layerReturnsSoftenings() {
        EnamelKiln x = withLayer(0, SMOOTH);
        for (int softened = 0; softened <= 7; softened++) {
            layer(x, 0, 0, 2, softened);
            layer(x, 0, 0, 1, softened <= 2 ? SMOOTH : DULL);
            x.fire(680, 1);
        }
        x.fire(801, 1);
        layer(x, 0, 0, 2, 8);
        layer(x, 0, 0, 1, BURNT);
    }

    /** Promise 7: "INVALID_ARGUMENT if field or what is out of range or layer is negative" */
    static void layerOutOfRange() {
        EnamelKiln x = withThree(6);
        int[][] wrong = {
            {-1, 0, 0}, {7, 0, 0}, {MIN, 0, 0}, {MAX, 0, 0}, {6, 0, -1}, {6, 0, 3}, {6, 0, MIN}, {6, 0, MAX},
            {6, -1, 0}, {6, -2, 0}, {6, MIN, 0}, {7, 3, 0}, {6, 3, 3}, {0, 0, 3}, {0, 0, -1}, {7, -1, 3},
        };
        for (int[] w : wrong) {
            layer(x, w[0], w[1], w[2], INVALID);
        }
    }

    /** Promise 7: "NOT_FOUND if the field has not so many layers" */
    static void layerThatThereIsNot() {
        for (int field = 0; field <= 6; field++) {
            EnamelKiln x = withColors();
            for (int layers = 0; layers < 3; layers++) {
                layer(x, field, layers, 0, NOT_FOUND);
                layer(x, field, layers, 2, NOT_FOUND);
                x.put(field, 0);
                layer(x, field, layers, 0, 0);
                layer(x, field, layers + 1, 0, NOT_FOUND);
                x.fire(660, 1);
            }
            layer(x, field, 3, 1, NOT_FOUND);
            layer(x, field, 4, 1, NOT_FOUND);
            layer(x, field, MAX, 1, NOT_FOUND);
        }
    }

    // ---- field

    /** Promise 8: "`field`: 0 to 6" */
    static void fieldFromNoughtToSix() {
        EnamelKiln x = withColors();
        x.put(0, 0);
        x.put(6, 0);
        field(x, -1, 0, INVALID);
        field(x, 0, 0, 1);
        field(x, 5, 0, 0);
        field(x, 6, 0, 1);
        field(x, 7, 0, INVALID);
    }

    /** Promise 8: "`what`: 0: its layers" */
    static void fieldLayersFromNoneToThree() {
        for (int field = 0; field <= 6; field++) {
            EnamelKiln x = withColors();
            for (int layers = 0; layers <= 3; layers++) {
                field(x, field, 0, layers);
                x.put(field, 0);
                x.fire(660, 1);
            }
            x.fire(801, 1);
            field(x, field, 0, 3);
            x.clean();
            field(x, field, 0, 0);
        }
    }

    /** Promise 8: "1: its pull" */
    static void fieldPullOfSmoothAndDullOnes() {
        int[] pulls = {0, 0, 70, 70, 0};
        for (int state = RAW; state <= BURNT; state++) {
            field(withLayer(0, state), 0, 1, pulls[state]);
            field(withLayer(6, state), 6, 1, pulls[state]);
        }
        EnamelKiln x = withThree(6);
        x.fire(700, 3);
        field(x, 6, 1, 210);
    }

    /** Promise 8: "2: its strain, as it would be if the plate cooled now" */
    static void fieldStrainEitherWay() {
        EnamelKiln x = withColors();
        x.put(0, 0);
        x.put(1, 1);
        field(x, 0, 2, 0);
        x.fire(760, 3);
        field(x, 0, 2, 70);
        field(x, 1, 2, 10);
        field(x, 2, 2, 0);
        x.put(6, 1);
        field(x, 0, 2, 70);
        x.fire(760, 3);
        field(x, 0, 2, 60);
        field(x, 1, 2, 0);
        field(x, 2, 2, 10);
        field(x, 5, 2, 10);
    }

    /** Promise 8: "3: 1 if it is cracked, otherwise 0" */
    static void fieldCrackedOrNot() {
        EnamelKiln x = withColors();
        x.set(2, 69);
        x.put(2, 0);
        x.put(3, 1);
        x.fire(760, 3);
        for (int field = 0; field <= 5; field++) {
            field(x, field, 3, field == 2 ? 1 : 0);
        }
        x.set(2, 400);
        field(x, 2, 3, 1);
        x.fire(680, 1);
        field(x, 2, 3, 0);
    }

    /**
     * Promise 8: "4: the least heat at which none of its layers (burnt ones, too) would be below its
     * melting heat"
     */
    static void fieldHeatThatMeltsAll() {
        EnamelKiln x = new EnamelKiln();
        x.color(600, 610, 100);
        x.color(900, 910, 100);
        x.color(750, 760, 100);
        for (int field = 0; field <= 6; field += 6) {
            x.clean();
            x.put(field, 0);
            field(x, field, 4, 600);
            x.fire(1200, 1);
            field(x, field, 4, 600);
            x.put(field, 1);
            field(x, field, 4, 900);
            x.fire(1200, 1);
            x.put(field, 2);
            field(x, field, 4, 900);
            x.fire(1200, 1);
            field(x, field, 4, 900);
        }
    }

    /** Promise 8: "5: the greatest heat at which none of its layers that are not burnt would burn" */
    static void fieldHeatThatBurnsNone() {
        EnamelKiln x = new EnamelKiln();
        x.color(600, 610, 100);
        x.color(900, 1100, 100);
        x.color(700, 750, 100);
        for (int field = 0; field <= 6; field += 6) {
            x.clean();
            x.put(field, 1);
            field(x, field, 5, 1100);
            x.fire(860, 1);
            x.put(field, 0);
            field(x, field, 5, 610);
            x.fire(600, 1);
            field(x, field, 5, 610);
            x.put(field, 2);
            field(x, field, 5, 610);
            x.fire(611, 1);
            field(x, field, 5, 750);
            x.fire(751, 1);
            field(x, field, 5, 1100);
            x.fire(1100, 3);
            field(x, field, 5, 1100);
            x.fire(1101, 1);
            field(x, field, 5, NOT_FOUND);
        }
    }

    /** Promise 8: "Returns a property of a field." */
    static void fieldChangesNothing() {
        EnamelKiln x = withLayer(0, SMOOTH);
        for (int what = -1; what <= 6; what++) {
            x.field(0, what);
            x.field(6, what);
        }
        Due.same("behind field", x, withLayer(0, SMOOTH));
    }

    /** Promise 8: "Returns the property" (of each field its own) */
    static void fieldReturnsItsOwn() {
        EnamelKiln x = new EnamelKiln();
        for (int color = 0; color <= 6; color++) {
            x.color(700 + color, 800 - color, 100 + 10 * color);
            x.put(color, color);
        }
        x.set(2, 55);
        x.fire(710, 3);
        for (int field = 0; field <= 6; field++) {
            field(x, field, 1, 70 - 10 * field);
            field(x, field, 2, field == 6 ? NOT_FOUND : 60 - 10 * field);
            field(x, field, 3, field == 6 ? NOT_FOUND : field == 0 ? 1 : 0);
            field(x, field, 4, 700 + field);
            field(x, field, 5, 800 - field);
        }
    }

    /** Promise 8: "INVALID_ARGUMENT if an argument is out of range" */
    static void fieldOutOfRange() {
        EnamelKiln x = withLayer(6, SMOOTH);
        int[][] wrong = {
            {-1, 0}, {7, 0}, {MIN, 0}, {MAX, 0}, {-1, 2}, {7, 3}, {7, 4}, {0, -1}, {0, 6}, {6, -1}, {6, 6},
            {6, MIN}, {6, MAX}, {0, MIN}, {0, MAX}, {7, 6},
        };
        for (int[] w : wrong) {
            field(x, w[0], w[1], INVALID);
        }
    }

    /**
     * Promise 8: "NOT_FOUND for 2 and 3 of the back, for 4 if it has no layers, for 5 if it has none that
     * is not burnt"
     */
    static void fieldWithoutSuchAValue() {
        for (int field = 0; field <= 6; field++) {
            EnamelKiln bare = withColors();
            field(bare, field, 0, 0);
            field(bare, field, 1, 0);
            field(bare, field, 2, field == 6 ? NOT_FOUND : 0);
            field(bare, field, 3, field == 6 ? NOT_FOUND : 0);
            field(bare, field, 4, NOT_FOUND);
            field(bare, field, 5, NOT_FOUND);
            EnamelKiln burnt = withLayer(field, BURNT);
            field(burnt, field, 2, field == 6 ? NOT_FOUND : 0);
            field(burnt, field, 3, field == 6 ? NOT_FOUND : 0);
            field(burnt, field, 4, 700);
            field(burnt, field, 5, NOT_FOUND);
            burnt.put(field, 1);
            field(burnt, field, 4, 760);
            field(burnt, field, 5, 900);
        }
    }

    // ---- set

    /**
     * Promise 9, Firing: "The settings are (in parentheses: range; first value): 0 the time in minutes (1
     * to 10; 3), 1 the softenings that are allowed (0 to 5; 2), 2 the strain (0 to 400; 120)."
     */
    static void settingsRangesAndFirstValues() {
        int[] least = {1, 0, 0};
        int[] greatest = {10, 5, 400};
        int[] first = {3, 2, 120};
        for (int what = 0; what <= 2; what++) {
            EnamelKiln x = new EnamelKiln();
            count(x, 8 + what, first[what]);
            Due.is("below the least of " + what, x.set(what, least[what] - 1), INVALID);
            Due.is("above the greatest of " + what, x.set(what, greatest[what] + 1), INVALID);
            count(x, 8 + what, first[what]);
            Due.is("the least of " + what, x.set(what, least[what]), first[what]);
            count(x, 8 + what, least[what]);
            Due.is("the greatest of " + what, x.set(what, greatest[what]), least[what]);
            count(x, 8 + what, greatest[what]);
            for (int other = 0; other <= 2; other++) {
                count(x, 8 + other, other == what ? greatest[what] : first[other]);
            }
        }
    }

    /** Promise 9: "Sets a setting." */
    static void setSetsOne() {
        EnamelKiln x = new EnamelKiln();
        x.set(0, 7);
        x.set(1, 4);
        x.set(2, 399);
        count(x, 8, 7);
        count(x, 9, 4);
        count(x, 10, 399);
    }

    /** Promise 9: "`what`: 0 to 2" */
    static void setFromNoughtToTwo() {
        EnamelKiln x = new EnamelKiln();
        Due.is("set(-1, 1)", x.set(-1, 1), INVALID);
        Due.is("set(0, 1)", x.set(0, 1), 3);
        Due.is("set(2, 1)", x.set(2, 1), 120);
        Due.is("set(3, 1)", x.set(3, 1), INVALID);
    }

    /** Promise 9: "`value`: a value in its range" */
    static void setAValueInItsRange() {
        EnamelKiln x = new EnamelKiln();
        Due.is("the time 0, which the others may be", x.set(0, 0), INVALID);
        Due.is("the softenings 6, which the time may be", x.set(1, 6), INVALID);
        Due.is("the time 11, which the strain may be", x.set(0, 11), INVALID);
        Due.is("the time 6", x.set(0, 6), 3);
        Due.is("the softenings 0", x.set(1, 0), 2);
        Due.is("the strain 11", x.set(2, 11), 120);
    }

    /** Promise 9: "Returns the previous value" */
    static void setReturnsThePrevious() {
        EnamelKiln x = new EnamelKiln();
        Due.is("set(2, 0)", x.set(2, 0), 120);
        Due.is("set(2, 400)", x.set(2, 400), 0);
        Due.is("set(2, 400) again", x.set(2, 400), 400);
        x.undo();
        x.undo();
        Due.is("set(2, 5) behind undo", x.set(2, 5), 0);
    }

    /** Promise 9: "INVALID_ARGUMENT if an argument is out of range" */
    static void setOutOfRange() {
        EnamelKiln x = new EnamelKiln();
        int[][] wrong = {
            {-1, 3}, {3, 3}, {MIN, 3}, {MAX, 3}, {0, MIN}, {0, MAX}, {1, MIN}, {1, MAX}, {2, MIN}, {2, MAX},
            {0, -3}, {1, -1}, {2, -1}, {3, 0},
        };
        for (int[] w : wrong) {
            Due.is("set(" + w[0] + ", " + w[1] + ")", x.set(w[0], w[1]), INVALID);
        }
        Due.same("behind wrong ones", x, new EnamelKiln());
    }

    // ---- count

    /**
     * Promise 10: "`what`: 0: colors; 1: layers on the plate; 2 to 6: layers with the state 0 to 4; 7:
     * cracked fields; 8 to 10: the settings 0 to 2; 11 to 19: the accounts 0 to 8; 20: colors in all
     * wishes together; 21: states in the history; 22: the length of the text"
     */
    static void countFromNoughtTo22() {
        EnamelKiln x = withColors();
        x.color(800, 900, 110);
        x.set(0, 9);
        x.set(1, 0);
        x.set(2, 40);
        x.put(0, 0);
        x.put(1, 0);
        x.put(6, 2);
        x.takeOff(6);
        x.fire(700, 9);
        x.fire(680, 1);
        x.put(2, 1);
        x.put(3, 2);
        x.put(1, 1);
        x.fire(760, 3);
        x.put(4, 2);
        x.put(1, 0);
        x.takeOff(1);
        x.wish(0, 0);
        x.wish(5, 1);
        Due.type(x, "0=ab;3");
        x.wish(0, 0);
        // Dull on 0 and 1, grainy on 1, 2 and 3, raw on 4. The crack of 0 was mended by each later firing,
        // that of 1 by the second one only, as its grainy layer kept it from the third one.
        int[] due = {3, 6, 1, 3, 0, 2, 0, 2, 9, 0, 40, 3, 13, 8, 2, 2, 2, 0, 5, 3, 3, 4, 6};
        for (int what = 0; what <= 22; what++) {
            count(x, what, due[what]);
        }
        count(x, -1, INVALID);
        count(x, 23, INVALID);
    }

    /** Promise 10: "2 to 6: layers with the state 0 to 4" (none, all 21) */
    static void countOfStatesFromNoneTo21() {
        EnamelKiln x = withFullPlate();
        int[] heats = {660, 700, 680, 801};
        int[] states = {GRAINY, SMOOTH, DULL, BURNT};
        x.set(1, 0);
        for (int i = 0; i < 4; i++) {
            x.fire(heats[i], 3);
            count(x, 1, 21);
            for (int state = RAW; state <= BURNT; state++) {
                count(x, 2 + state, state == states[i] ? 21 : 0);
            }
        }
        EnamelKiln y = withColors();
        for (int field = 0; field <= 6; field++) {
            count(y, 2, field);
            y.put(field, 0);
        }
        count(y, 2, 7);
    }

    /** Promise 10: "7: cracked fields" (none, all six) */
    static void countOfCrackedFieldsFromNoneToSix() {
        for (int fields = 0; fields <= 6; fields++) {
            EnamelKiln x = withColors();
            x.set(2, 69);
            for (int field = 0; field < fields; field++) {
                x.put(field, 0);
            }
            count(x, 7, 0);
            x.fire(700, 3);
            count(x, 7, fields);
        }
    }

    /** Promise 10: "20: colors in all wishes together" (none, all 18) */
    static void countOfWishedColorsFromNoneTo18() {
        EnamelKiln x = withColors();
        for (int i = 0; i < 18; i++) {
            count(x, 20, i);
            x.wish(5 - i / 3, i % 2);
        }
        count(x, 20, 18);
        x.wish(0, 0);
        count(x, 20, 18);
        x.wish(0, -1);
        count(x, 20, 15);
    }

    /** Promise 10: "21: states in the history" (none, four) */
    static void countOfStatesInTheHistory() {
        EnamelKiln x = new EnamelKiln();
        for (int changes = 0; changes <= 6; changes++) {
            count(x, 21, Math.min(changes, 4));
            x.clean();
        }
        for (int left = 3; left >= 0; left--) {
            x.undo();
            count(x, 21, left);
        }
        x.undo();
        count(x, 21, 0);
    }

    /** Promise 10: "22: the length of the text" (none, 80) */
    static void countOfCharacters() {
        EnamelKiln x = new EnamelKiln();
        for (int length = 0; length <= 80; length++) {
            count(x, 22, length);
            x.type(' ');
        }
        x.type(' ');
        count(x, 22, 80);
        x.clearText();
        count(x, 22, 0);
    }

    /** Promise 10: "Returns a number." */
    static void countChangesNothing() {
        EnamelKiln x = withLayer(0, SMOOTH);
        for (int what = -1; what <= 23; what++) {
            x.count(what);
        }
        Due.same("behind count", x, withLayer(0, SMOOTH));
    }

    /** Promise 10: "Returns the number" */
    static void countOfColors() {
        EnamelKiln x = new EnamelKiln();
        for (int colors = 0; colors < 12; colors++) {
            count(x, 0, colors);
            x.color(700, 800, 100);
        }
        count(x, 0, 12);
    }

    /** Promise 10: "INVALID_ARGUMENT if what is out of range" */
    static void countOutOfRange() {
        EnamelKiln x = withColors();
        for (int what : new int[] {MIN, -23, -2, -1, 23, 24, 100, MAX}) {
            count(x, what, INVALID);
        }
        count(x, 0, 2);
        count(x, 22, 0);
    }
}
