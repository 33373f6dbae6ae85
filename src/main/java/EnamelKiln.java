/** Enamel on a copper plate: colors, layers, firings, plans, and wishes that come from texts. */
public final class EnamelKiln {
    public static final int INVALID_ARGUMENT = -1;
    public static final int NOT_POSSIBLE = -2;
    public static final int LIMIT_REACHED = -3;
    public static final int NOT_FOUND = -4;

    private static final int MOST_COLORS = 12;
    private static final int MOST_LAYERS = 3;
    private static final int FRONT_FIELDS = 6;
    private static final int BACK = 6;
    private static final int FIELDS = 7;
    private static final int MOST_FIRINGS = 1000;
    private static final int MOST_HISTORY = 4;
    private static final int MOST_TEXT = 80;

    private static final int PLATE_EXPANSION = 170;
    private static final int LEAST_HEAT = 500;
    private static final int GREATEST_HEAT = 1200;
    private static final int GRAINS_BELOW_MELTING = 40;
    private static final int SOFTENS_BELOW_MELTING = 20;

    private static final int RAW = 0;
    private static final int GRAINY = 1;
    private static final int SMOOTH = 2;
    private static final int DULL = 3;
    private static final int BURNT = 4;

    private static final int SETTINGS = 3;
    private static final int TIME = 0;
    private static final int SOFTENINGS = 1;
    private static final int STRAIN = 2;
    private static final int[] LEAST_SETTING = {1, 0, 0};
    private static final int[] GREATEST_SETTING = {10, 5, 400};

    private static final int ACCOUNTS = 9;
    private static final int FIRED = 0;
    private static final int MINUTES = 1;
    private static final int PUT = 2;
    private static final int TAKEN_OFF = 3;
    private static final int BECAME_SMOOTH = 4;
    private static final int BECAME_DULL = 5;
    private static final int BECAME_BURNT = 6;
    private static final int CRACKED = 7;
    private static final int MENDED = 8;

    private final Bench bench;
    private final History history;
    private final Firing firing;
    private final Plate trialPlate;
    private final Planner planner;
    private final WishText text;
    private boolean planIsOld;

    public EnamelKiln() {
        bench = new Bench();
        history = new History();
        firing = new Firing();
        trialPlate = new Plate();
        planner = new Planner();
        text = new WishText();
        planIsOld = true;
    }

    // ---- colors

    public int color(int melting, int burning, int expansion) {
        if (!within(melting, 600, 900) || !within(burning, melting + 10, melting + 200)
                || !within(expansion, 60, 160)) {
            return INVALID_ARGUMENT;
        }
        if (bench.palette.size >= MOST_COLORS) {
            return LIMIT_REACHED;
        }
        history.keep(bench);
        return bench.palette.append(melting, burning, expansion);
    }

    public int colorInfo(int color, int what) {
        if (!isColor(color)) {
            return INVALID_ARGUMENT;
        }
        switch (what) {
            case 0:
                return bench.palette.melting[color];
            case 1:
                return bench.palette.burning[color];
            case 2:
                return bench.palette.expansion[color];
            case 3:
                return bench.palette.pullOf(color);
            case 4:
                return bench.plate.layersOfColor(color);
            case 5:
                return bench.wishes.timesOfColor(color);
            default:
                return INVALID_ARGUMENT;
        }
    }

    // ---- the plate

    public int put(int field, int color) {
        if (!isField(field) || !isColor(color)) {
            return INVALID_ARGUMENT;
        }
        if (bench.plate.outermostIsRaw(field)) {
            return NOT_POSSIBLE;
        }
        if (bench.plate.sizes[field] >= MOST_LAYERS) {
            return LIMIT_REACHED;
        }
        history.keep(bench);
        bench.accounts[PUT]++;
        return bench.plate.append(field, color);
    }

    public int takeOff(int field) {
        if (!isField(field)) {
            return INVALID_ARGUMENT;
        }
        if (!bench.plate.outermostIsRaw(field)) {
            return NOT_POSSIBLE;
        }
        history.keep(bench);
        bench.accounts[TAKEN_OFF]++;
        return bench.plate.removeOutermost(field);
    }

    public int clean() {
        int layers = bench.plate.layers();
        history.keep(bench);
        bench.plate.makeBare();
        bench.accounts[PUT] = 0;
        bench.accounts[TAKEN_OFF] = 0;
        return layers;
    }

    public int layer(int field, int layer, int what) {
        if (!isField(field) || layer < 0 || !within(what, 0, 2)) {
            return INVALID_ARGUMENT;
        }
        if (layer >= bench.plate.sizes[field]) {
            return NOT_FOUND;
        }
        int place = placeOf(field, layer);
        if (what == 0) {
            return bench.plate.colors[place];
        }
        return what == 1 ? bench.plate.states[place] : bench.plate.softenings[place];
    }

    public int field(int field, int what) {
        if (!isField(field)) {
            return INVALID_ARGUMENT;
        }
        switch (what) {
            case 0:
                return bench.plate.sizes[field];
            case 1:
                return bench.plate.pullOf(field, bench.palette);
            case 2:
                return field == BACK ? NOT_FOUND : bench.plate.strainOf(field, bench.palette);
            case 3:
                return field == BACK ? NOT_FOUND : bench.plate.cracks[field];
            case 4:
                return bench.plate.heatThatMelts(field, bench.palette);
            case 5:
                return bench.plate.heatThatSpares(field, bench.palette);
            default:
                return INVALID_ARGUMENT;
        }
    }

    public int set(int what, int value) {
        if (!within(what, 0, SETTINGS - 1)
                || !within(value, LEAST_SETTING[what], GREATEST_SETTING[what])) {
            return INVALID_ARGUMENT;
        }
        history.keep(bench);
        int previous = bench.settings[what];
        bench.settings[what] = value;
        return previous;
    }

    public int count(int what) {
        if (within(what, 2, 6)) {
            return bench.plate.layersOfState(what - 2);
        }
        if (within(what, 8, 10)) {
            return bench.settings[what - 8];
        }
        if (within(what, 11, 19)) {
            return bench.accounts[what - 11];
        }
        switch (what) {
            case 0:
                return bench.palette.size;
            case 1:
                return bench.plate.layers();
            case 7:
                return bench.plate.crackedFields();
            case 20:
                return bench.wishes.colorsTogether();
            case 21:
                return history.size;
            case 22:
                return text.length;
            default:
                return INVALID_ARGUMENT;
        }
    }

    // ---- firing

    public int fire(int heat, int minutes) {
        if (!within(heat, LEAST_HEAT, GREATEST_HEAT) || !within(minutes, 1, 20)) {
            return INVALID_ARGUMENT;
        }
        if (bench.accounts[FIRED] >= MOST_FIRINGS) {
            return LIMIT_REACHED;
        }
        history.keep(bench);
        firing.happen(bench, bench.plate, heat, minutes);
        bench.accounts[FIRED]++;
        bench.accounts[MINUTES] += minutes;
        bench.accounts[BECAME_SMOOTH] += firing.smooth;
        bench.accounts[BECAME_DULL] += firing.dull;
        bench.accounts[BECAME_BURNT] += firing.burnt;
        bench.accounts[CRACKED] += firing.cracks;
        bench.accounts[MENDED] += firing.mended;
        return firing.smooth;
    }

    public int ifFired(int heat, int what) {
        if (!within(heat, LEAST_HEAT, GREATEST_HEAT) || !within(what, 0, 4)) {
            return INVALID_ARGUMENT;
        }
        tryHeat(heat);
        switch (what) {
            case 0:
                return firing.smooth;
            case 1:
                return firing.burnt;
            case 2:
                return firing.dull;
            case 3:
                return firing.cracks;
            default:
                return firing.mended;
        }
    }

    // As long as none burns, a greater heat melts and dulls no fewer layers: so of the heats that
    // melt most, the least has the fewest dull ones, too; it is the least of all or a melting heat.
    public int bestHeat() {
        tryHeat(LEAST_HEAT);
        int best = LEAST_HEAT;
        int mostSmooth = firing.smooth;
        for (int color = 0; color < bench.palette.size; color++) {
            int heat = bench.palette.melting[color];
            tryHeat(heat);
            if (firing.burnt == 0 && (firing.smooth > mostSmooth
                    || firing.smooth == mostSmooth && heat < best)) {
                best = heat;
                mostSmooth = firing.smooth;
            }
        }
        return best;
    }

    // ---- plans

    public int wish(int field, int color) {
        if (!isFrontField(field) || color != -1 && !isColor(color)) {
            return INVALID_ARGUMENT;
        }
        if (color != -1 && bench.wishes.sizes[field] >= MOST_LAYERS) {
            return LIMIT_REACHED;
        }
        history.keep(bench);
        planIsOld = true;
        if (color == -1) {
            bench.wishes.sizes[field] = 0;
        } else {
            bench.wishes.append(field, color);
        }
        return bench.wishes.sizes[field];
    }

    public int wished(int field, int index) {
        if (!isFrontField(field) || index < 0) {
            return INVALID_ARGUMENT;
        }
        if (index >= bench.wishes.sizes[field]) {
            return NOT_FOUND;
        }
        return bench.wishes.colors[placeOf(field, index)];
    }

    public int leastFirings() {
        bringPlanUpToDate();
        return planner.isFound ? planner.length : NOT_FOUND;
    }

    public int planned(int index, int what) {
        if (index < 0 || !within(what, 0, 1)) {
            return INVALID_ARGUMENT;
        }
        bringPlanUpToDate();
        if (!planner.isFound || index >= planner.length) {
            return NOT_FOUND;
        }
        return what == 0 ? planner.sets[index] : planner.heats[index];
    }

    public int counter() {
        int best = NOT_FOUND;
        int leastStrain = 0;
        for (int color = 0; color < bench.palette.size; color++) {
            int strain = bench.plate.greatestStrainWith(color, bench.palette);
            if (best == NOT_FOUND || strain < leastStrain) {
                best = color;
                leastStrain = strain;
            }
        }
        return best;
    }

    public int undo() {
        if (history.size == 0) {
            return NOT_POSSIBLE;
        }
        history.restore(bench);
        planIsOld = true;
        return history.size;
    }

    // ---- texts

    public int type(int character) {
        if (!within(character, 32, 126)) {
            return INVALID_ARGUMENT;
        }
        if (text.length >= MOST_TEXT) {
            return LIMIT_REACHED;
        }
        return text.append((char) character);
    }

    public int clearText() {
        int length = text.length;
        text.length = 0;
        return length;
    }

    public int fault(int what) {
        if (!within(what, 0, 1)) {
            return INVALID_ARGUMENT;
        }
        text.lookForFault(bench.palette.size);
        if (!text.hasFault()) {
            return NOT_FOUND;
        }
        return what == 0 ? text.faultPosition : text.faultReason;
    }

    public int read() {
        text.lookForFault(bench.palette.size);
        if (text.hasFault()) {
            return NOT_POSSIBLE;
        }
        history.keep(bench);
        planIsOld = true;
        return text.giveTo(bench.wishes);
    }

    // ---- what several calls need

    private static boolean within(int value, int least, int greatest) {
        return value >= least && value <= greatest;
    }

    private static int placeOf(int field, int layer) {
        return field * MOST_LAYERS + layer;
    }

    private static boolean isField(int field) {
        return within(field, 0, FIELDS - 1);
    }

    private static boolean isFrontField(int field) {
        return within(field, 0, FRONT_FIELDS - 1);
    }

    private boolean isColor(int color) {
        return within(color, 0, bench.palette.size - 1);
    }

    private void tryHeat(int heat) {
        trialPlate.copyFrom(bench.plate);
        firing.happen(bench, trialPlate, heat, bench.settings[TIME]);
    }

    // The search is the dearest work of all, so its plan is kept until the wishes may have changed.
    private void bringPlanUpToDate() {
        if (planIsOld) {
            planner.search(bench.wishes, bench.palette);
            planIsOld = false;
        }
    }

    private static void copyRow(int[] from, int[] to) {
        System.arraycopy(from, 0, to, 0, Math.min(from.length, to.length));
    }

    /** The colors that there are. */
    private static final class Palette {
        private final int[] melting = new int[MOST_COLORS];
        private final int[] burning = new int[MOST_COLORS];
        private final int[] expansion = new int[MOST_COLORS];
        private int size = 0;

        private int append(int melts, int burns, int expands) {
            melting[size] = melts;
            burning[size] = burns;
            expansion[size] = expands;
            size++;
            return size - 1;
        }

        private int pullOf(int color) {
            return PLATE_EXPANSION - expansion[color];
        }

        private void copyFrom(Palette other) {
            copyRow(other.melting, melting);
            copyRow(other.burning, burning);
            copyRow(other.expansion, expansion);
            size = other.size;
        }
    }

    /** The layers of all fields; the one of a field and a number stands at placeOf. */
    private static final class Plate {
        private final int[] sizes = new int[FIELDS];
        private final int[] colors = new int[FIELDS * MOST_LAYERS];
        private final int[] states = new int[FIELDS * MOST_LAYERS];
        private final int[] softenings = new int[FIELDS * MOST_LAYERS];
        private final int[] cracks = new int[FRONT_FIELDS];

        private int append(int field, int color) {
            int layer = sizes[field];
            int place = placeOf(field, layer);
            colors[place] = color;
            states[place] = RAW;
            softenings[place] = 0;
            sizes[field]++;
            return layer;
        }

        private int removeOutermost(int field) {
            sizes[field]--;
            return colors[placeOf(field, sizes[field])];
        }

        // Nothing is put on a raw layer, so no other layer of a field can be raw.
        private boolean outermostIsRaw(int field) {
            return sizes[field] > 0 && states[placeOf(field, sizes[field] - 1)] == RAW;
        }

        private void makeBare() {
            for (int field = 0; field < FIELDS; field++) {
                sizes[field] = 0;
            }
            for (int field = 0; field < FRONT_FIELDS; field++) {
                cracks[field] = 0;
            }
        }

        private int layers() {
            int layers = 0;
            for (int field = 0; field < FIELDS; field++) {
                layers += sizes[field];
            }
            return layers;
        }

        private int layersOfColor(int color) {
            return layersWith(colors, color);
        }

        private int layersOfState(int state) {
            return layersWith(states, state);
        }

        private int layersWith(int[] row, int value) {
            int layers = 0;
            for (int field = 0; field < FIELDS; field++) {
                for (int layer = 0; layer < sizes[field]; layer++) {
                    if (row[placeOf(field, layer)] == value) {
                        layers++;
                    }
                }
            }
            return layers;
        }

        private int crackedFields() {
            int cracked = 0;
            for (int field = 0; field < FRONT_FIELDS; field++) {
                cracked += cracks[field];
            }
            return cracked;
        }

        private boolean holdsOn(int place) {
            return states[place] == SMOOTH || states[place] == DULL;
        }

        private boolean hasHold(int field) {
            for (int layer = 0; layer < sizes[field]; layer++) {
                if (holdsOn(placeOf(field, layer))) {
                    return true;
                }
            }
            return false;
        }

        private int pullOf(int field, Palette palette) {
            int pull = 0;
            for (int layer = 0; layer < sizes[field]; layer++) {
                int place = placeOf(field, layer);
                if (holdsOn(place)) {
                    pull += palette.pullOf(colors[place]);
                }
            }
            return pull;
        }

        private int strainOf(int field, Palette palette) {
            return Math.abs(pullOf(field, palette) - pullOf(BACK, palette));
        }

        private int greatestStrainWith(int color, Palette palette) {
            int back = pullOf(BACK, palette) + palette.pullOf(color);
            int greatest = 0;
            for (int field = 0; field < FRONT_FIELDS; field++) {
                greatest = Math.max(greatest, Math.abs(pullOf(field, palette) - back));
            }
            return greatest;
        }

        private int heatThatMelts(int field, Palette palette) {
            int heat = NOT_FOUND;
            for (int layer = 0; layer < sizes[field]; layer++) {
                heat = Math.max(heat, palette.melting[colors[placeOf(field, layer)]]);
            }
            return heat;
        }

        private int heatThatSpares(int field, Palette palette) {
            int heat = NOT_FOUND;
            for (int layer = 0; layer < sizes[field]; layer++) {
                int place = placeOf(field, layer);
                if (states[place] != BURNT) {
                    int burning = palette.burning[colors[place]];
                    heat = heat == NOT_FOUND ? burning : Math.min(heat, burning);
                }
            }
            return heat;
        }

        private void copyFrom(Plate other) {
            copyRow(other.sizes, sizes);
            copyRow(other.colors, colors);
            copyRow(other.states, states);
            copyRow(other.softenings, softenings);
            copyRow(other.cracks, cracks);
        }
    }

    /** The wished colors of the fields of the front; they stand at placeOf, too. */
    private static final class Wishes {
        private final int[] sizes = new int[FRONT_FIELDS];
        private final int[] colors = new int[FRONT_FIELDS * MOST_LAYERS];

        private void append(int field, int color) {
            colors[placeOf(field, sizes[field])] = color;
            sizes[field]++;
        }

        private int colorsTogether() {
            int together = 0;
            for (int field = 0; field < FRONT_FIELDS; field++) {
                together += sizes[field];
            }
            return together;
        }

        private int timesOfColor(int color) {
            int times = 0;
            for (int field = 0; field < FRONT_FIELDS; field++) {
                for (int index = 0; index < sizes[field]; index++) {
                    if (colors[placeOf(field, index)] == color) {
                        times++;
                    }
                }
            }
            return times;
        }

        private void copyFrom(Wishes other) {
            copyRow(other.sizes, sizes);
            copyRow(other.colors, colors);
        }
    }

    /** Everything that a state of the history keeps. */
    private static final class Bench {
        private final Palette palette = new Palette();
        private final Plate plate = new Plate();
        private final Wishes wishes = new Wishes();
        private final int[] settings = {3, 2, 120};
        private final int[] accounts = new int[ACCOUNTS];

        private void copyFrom(Bench other) {
            palette.copyFrom(other.palette);
            plate.copyFrom(other.plate);
            wishes.copyFrom(other.wishes);
            copyRow(other.settings, settings);
            copyRow(other.accounts, accounts);
        }
    }

    /** The latest states, in a ring, so that keeping one makes no objects. */
    private static final class History {
        private final Bench[] ring = {new Bench(), new Bench(), new Bench(), new Bench()};
        private int next = 0;
        private int size = 0;

        private void keep(Bench bench) {
            ring[next].copyFrom(bench);
            next = (next + 1) % MOST_HISTORY;
            size = Math.min(size + 1, MOST_HISTORY);
        }

        private void restore(Bench bench) {
            next = (next + MOST_HISTORY - 1) % MOST_HISTORY;
            size--;
            bench.copyFrom(ring[next]);
        }
    }

    /** One firing of a plate, and how many layers and fields it changed. */
    private static final class Firing {
        private final boolean[] gaveWay = new boolean[FIELDS * MOST_LAYERS];
        private int smooth = 0;
        private int burnt = 0;
        private int dull = 0;
        private int cracks = 0;
        private int mended = 0;

        private void happen(Bench bench, Plate plate, int heat, int minutes) {
            smooth = 0;
            burnt = 0;
            dull = 0;
            cracks = 0;
            mended = 0;
            boolean longEnough = minutes >= bench.settings[TIME];
            for (int field = 0; field < FIELDS; field++) {
                for (int layer = 0; layer < plate.sizes[field]; layer++) {
                    heatLayer(bench, plate, placeOf(field, layer), heat, longEnough);
                }
            }
            for (int field = 0; field < FRONT_FIELDS; field++) {
                mendField(plate, field);
                coolField(bench, plate, field);
            }
        }

        private void heatLayer(Bench bench, Plate plate, int place, int heat, boolean longEnough) {
            int color = plate.colors[place];
            int melting = bench.palette.melting[color];
            gaveWay[place] = false;
            if (plate.states[place] == BURNT) {
                return;
            }
            if (heat > bench.palette.burning[color]) {
                plate.states[place] = BURNT;
                burnt++;
            } else if (plate.holdsOn(place)) {
                if (heat >= melting - SOFTENS_BELOW_MELTING) {
                    soften(plate, place, bench.settings[SOFTENINGS]);
                }
            } else if (heat >= melting && longEnough) {
                plate.states[place] = SMOOTH;
                gaveWay[place] = true;
                smooth++;
            } else if (heat >= melting - GRAINS_BELOW_MELTING) {
                plate.states[place] = GRAINY;
            }
        }

        private void soften(Plate plate, int place, int allowed) {
            gaveWay[place] = true;
            plate.softenings[place]++;
            if (plate.softenings[place] > allowed && plate.states[place] != DULL) {
                plate.states[place] = DULL;
                dull++;
            }
        }

        private void mendField(Plate plate, int field) {
            if (plate.cracks[field] == 0) {
                return;
            }
            for (int layer = 0; layer < plate.sizes[field]; layer++) {
                if (!gaveWay[placeOf(field, layer)]) {
                    return;
                }
            }
            plate.cracks[field] = 0;
            mended++;
        }

        private void coolField(Bench bench, Plate plate, int field) {
            if (plate.cracks[field] == 0 && plate.hasHold(field)
                    && plate.strainOf(field, bench.palette) > bench.settings[STRAIN]) {
                plate.cracks[field] = 1;
                cracks++;
            }
        }
    }

    /**
     * The search for the best plan. A stage tells with two bits a field how many of its wished
     * layers are there, and so which colors were put, whatever the order of the firings was.
     */
    private static final class Planner {
        private static final int SETS = 64;
        private static final int STAGES = 4096;
        private static final int MOST_PLANNED = FRONT_FIELDS * MOST_LAYERS;
        private static final int NO_WAY = MOST_PLANNED + 1;

        private final int[] firingsFrom = new int[STAGES];
        private final int[] stepOf = new int[SETS];
        private final int[] meltingOf = new int[SETS];
        private final int[] burningOf = new int[SETS];
        private final int[] sets = new int[MOST_PLANNED];
        private final int[] heats = new int[MOST_PLANNED];
        private int length = 0;
        private boolean isFound = false;

        private Planner() {
            for (int set = 1; set < SETS; set++) {
                for (int field = 0; field < FRONT_FIELDS; field++) {
                    if ((set & (1 << field)) != 0) {
                        stepOf[set] += 1 << (2 * field);
                    }
                }
            }
        }

        private void search(Wishes wishes, Palette palette) {
            int last = lastStage(wishes);
            firingsFrom[last] = 0;
            // A firing leads to a greater stage, so what follows a stage is known before it.
            for (int stage = last - 1; stage >= 0; stage--) {
                int set = isStage(stage, wishes) ? bestSet(stage, wishes, palette) : 0;
                firingsFrom[stage] = set == 0 ? NO_WAY : firingsFrom[stage + stepOf[set]] + 1;
            }
            isFound = firingsFrom[0] < NO_WAY;
            length = isFound ? firingsFrom[0] : 0;
            int stage = 0;
            for (int index = 0; index < length; index++) {
                sets[index] = bestSet(stage, wishes, palette);
                heats[index] = meltingOf[sets[index]];
                stage += stepOf[sets[index]];
            }
        }

        private static int layersAt(int stage, int field) {
            return (stage >> (2 * field)) & 3;
        }

        private static int lastStage(Wishes wishes) {
            int stage = 0;
            for (int field = 0; field < FRONT_FIELDS; field++) {
                stage |= wishes.sizes[field] << (2 * field);
            }
            return stage;
        }

        private static boolean isStage(int stage, Wishes wishes) {
            for (int field = 0; field < FRONT_FIELDS; field++) {
                if (layersAt(stage, field) > wishes.sizes[field]) {
                    return false;
                }
            }
            return true;
        }

        // The sets go upward and only a better one replaces the best, so that the least one stays.
        private int bestSet(int stage, Wishes wishes, Palette palette) {
            int open = lookAtNext(stage, wishes, palette);
            meltingOf[0] = 0;
            burningOf[0] = burningOfPut(stage, wishes, palette);
            int best = 0;
            int fewest = NO_WAY;
            for (int set = 1; set < SETS; set++) {
                if ((set & ~open) != 0) {
                    continue;
                }
                int rest = set & (set - 1);
                int one = set ^ rest;
                meltingOf[set] = Math.max(meltingOf[rest], meltingOf[one]);
                burningOf[set] = Math.min(burningOf[rest], burningOf[one]);
                if (meltingOf[set] <= burningOf[set]
                        && firingsFrom[stage + stepOf[set]] < fewest) {
                    best = set;
                    fewest = firingsFrom[stage + stepOf[set]];
                }
            }
            return best;
        }

        private int lookAtNext(int stage, Wishes wishes, Palette palette) {
            int open = 0;
            for (int field = 0; field < FRONT_FIELDS; field++) {
                int layers = layersAt(stage, field);
                if (layers < wishes.sizes[field]) {
                    int color = wishes.colors[placeOf(field, layers)];
                    meltingOf[1 << field] = palette.melting[color];
                    burningOf[1 << field] = palette.burning[color];
                    open |= 1 << field;
                }
            }
            return open;
        }

        private static int burningOfPut(int stage, Wishes wishes, Palette palette) {
            int heat = GREATEST_HEAT;
            for (int field = 0; field < FRONT_FIELDS; field++) {
                for (int layer = 0; layer < layersAt(stage, field); layer++) {
                    int color = wishes.colors[placeOf(field, layer)];
                    heat = Math.min(heat, palette.burning[color]);
                }
            }
            return heat;
        }
    }

    /** The text of wishes and its fault. */
    private static final class WishText {
        private static final int NO_FAULT = 0;
        private static final int WRONG = 1;
        private static final int NO_SUCH_COLOR = 2;
        private static final int FOURTH_LETTER = 3;
        private static final int TOO_EARLY = 4;

        // How many characters of a wish are there when its field, its "=", a fourth letter is due.
        private static final int AT_FIELD = 0;
        private static final int AT_EQUALS = 1;
        private static final int AT_FOURTH_LETTER = 5;

        private final char[] characters = new char[MOST_TEXT];
        private int length = 0;
        private int faultPosition = 0;
        private int faultReason = NO_FAULT;

        private int append(char character) {
            characters[length] = character;
            length++;
            return length;
        }

        private boolean hasFault() {
            return faultReason != NO_FAULT;
        }

        private void lookForFault(int colors) {
            int at = AT_FIELD;
            for (int position = 0; position < length; position++) {
                char character = characters[position];
                faultReason = reasonOf(character, at, colors);
                if (hasFault()) {
                    faultPosition = position;
                    return;
                }
                at = character == ';' ? AT_FIELD : at + 1;
            }
            faultReason = at == AT_FIELD ? NO_FAULT : TOO_EARLY;
            faultPosition = length;
        }

        private static int reasonOf(char character, int at, int colors) {
            if (at == AT_FIELD) {
                return isFieldDigit(character) ? NO_FAULT : WRONG;
            }
            if (at == AT_EQUALS) {
                return character == '=' ? NO_FAULT : WRONG;
            }
            if (character == ';') {
                return NO_FAULT;
            }
            if (!isLetter(character)) {
                return WRONG;
            }
            if (character - 'a' >= colors) {
                return NO_SUCH_COLOR;
            }
            return at == AT_FOURTH_LETTER ? FOURTH_LETTER : NO_FAULT;
        }

        private static boolean isFieldDigit(char character) {
            return within(character, '0', '5');
        }

        private static boolean isLetter(char character) {
            return within(character, 'a', 'l');
        }

        // To be called only if there is no fault: then the kind of a character tells its part.
        private int giveTo(Wishes wishes) {
            int given = 0;
            int field = 0;
            for (int position = 0; position < length; position++) {
                char character = characters[position];
                if (isFieldDigit(character)) {
                    field = character - '0';
                    wishes.sizes[field] = 0;
                    given++;
                } else if (isLetter(character)) {
                    wishes.append(field, character - 'a');
                }
            }
            return given;
        }
    }
}
