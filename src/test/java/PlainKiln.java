import java.util.ArrayList;
import java.util.Arrays;
import java.util.HashSet;
import java.util.List;
import java.util.Set;

/** The document written once more, as plainly as can be, to be compared with EnamelKiln. */
final class PlainKiln {
    private static final int INVALID = -1;
    private static final int IMPOSSIBLE = -2;
    private static final int LIMIT = -3;
    private static final int NOT_FOUND = -4;

    private static final class Layer {
        int color;
        String state = "raw";
        int softenings;

        Layer copy() {
            Layer c = new Layer();
            c.color = color;
            c.state = state;
            c.softenings = softenings;
            return c;
        }

        boolean pulls() {
            return state.equals("smooth") || state.equals("dull");
        }
    }

    private static final class Snapshot {
        List<int[]> colors = new ArrayList<>();
        List<List<Layer>> fields = new ArrayList<>();
        boolean[] cracked = new boolean[7];
        List<List<Integer>> wishes = new ArrayList<>();
        int[] settings = {3, 2, 120};
        int[] accounts = new int[9];

        Snapshot() {
            for (int i = 0; i < 7; i++) {
                fields.add(new ArrayList<>());
            }
            for (int i = 0; i < 6; i++) {
                wishes.add(new ArrayList<>());
            }
        }

        Snapshot copy() {
            Snapshot c = new Snapshot();
            c.colors.addAll(colors);
            for (int i = 0; i < 7; i++) {
                for (Layer layer : fields.get(i)) {
                    c.fields.get(i).add(layer.copy());
                }
            }
            c.cracked = cracked.clone();
            for (int i = 0; i < 6; i++) {
                c.wishes.get(i).addAll(wishes.get(i));
            }
            c.settings = settings.clone();
            c.accounts = accounts.clone();
            return c;
        }

        int pull(int field) {
            int sum = 0;
            for (Layer layer : fields.get(field)) {
                if (layer.pulls()) {
                    sum += 170 - colors.get(layer.color)[2];
                }
            }
            return sum;
        }

        int strain(int field) {
            return Math.abs(pull(field) - pull(6));
        }

        /** Fires and answers: smooth, burnt, dull, cracks, mended. */
        int[] fire(int heat, int minutes) {
            int[] r = new int[5];
            Set<Layer> soft = new HashSet<>();
            for (List<Layer> field : fields) {
                for (Layer layer : field) {
                    int melting = colors.get(layer.color)[0];
                    int burning = colors.get(layer.color)[1];
                    if (layer.state.equals("burnt")) {
                        continue;
                    }
                    if (heat > burning) {
                        layer.state = "burnt";
                        r[1]++;
                    } else if (layer.state.equals("raw") || layer.state.equals("grainy")) {
                        if (heat >= melting && minutes >= settings[0]) {
                            layer.state = "smooth";
                            soft.add(layer);
                            r[0]++;
                        } else if (heat >= melting - 40) {
                            layer.state = "grainy";
                        }
                    } else if (heat >= melting - 20) {
                        layer.softenings++;
                        soft.add(layer);
                        if (layer.softenings > settings[1] && layer.state.equals("smooth")) {
                            layer.state = "dull";
                            r[2]++;
                        }
                    }
                }
            }
            for (int field = 0; field < 6; field++) {
                if (cracked[field] && soft.containsAll(fields.get(field))) {
                    cracked[field] = false;
                    r[4]++;
                }
            }
            for (int field = 0; field < 6; field++) {
                boolean any = fields.get(field).stream().anyMatch(Layer::pulls);
                if (!cracked[field] && any && strain(field) > settings[2]) {
                    cracked[field] = true;
                    r[3]++;
                }
            }
            return r;
        }
    }

    private Snapshot now = new Snapshot();
    private final List<Snapshot> history = new ArrayList<>();
    private String text = "";

    private void change() {
        history.add(now.copy());
        if (history.size() == 5) {
            history.remove(0);
        }
    }

    private boolean hasColor(int color) {
        return color >= 0 && color < now.colors.size();
    }

    int color(int melting, int burning, int expansion) {
        if (melting < 600 || melting > 900 || burning < melting + 10L || burning > melting + 200L
                || expansion < 60 || expansion > 160) {
            return INVALID;
        }
        if (now.colors.size() == 12) {
            return LIMIT;
        }
        change();
        now.colors.add(new int[] {melting, burning, expansion});
        return now.colors.size() - 1;
    }

    int colorInfo(int color, int what) {
        if (!hasColor(color) || what < 0 || what > 5) {
            return INVALID;
        }
        if (what < 3) {
            return now.colors.get(color)[what];
        }
        if (what == 3) {
            return 170 - now.colors.get(color)[2];
        }
        if (what == 4) {
            return (int) now.fields.stream().flatMap(List::stream).filter(l -> l.color == color).count();
        }
        return (int) now.wishes.stream().flatMap(List::stream).filter(c -> c == color).count();
    }

    int put(int field, int color) {
        if (field < 0 || field > 6 || !hasColor(color)) {
            return INVALID;
        }
        List<Layer> layers = now.fields.get(field);
        if (layers.stream().anyMatch(l -> l.state.equals("raw"))) {
            return IMPOSSIBLE;
        }
        if (layers.size() == 3) {
            return LIMIT;
        }
        change();
        Layer layer = new Layer();
        layer.color = color;
        layers.add(layer);
        now.accounts[2]++;
        return layers.size() - 1;
    }

    int takeOff(int field) {
        if (field < 0 || field > 6) {
            return INVALID;
        }
        List<Layer> layers = now.fields.get(field);
        if (layers.isEmpty() || !layers.get(layers.size() - 1).state.equals("raw")) {
            return IMPOSSIBLE;
        }
        change();
        now.accounts[3]++;
        return now.fields.get(field).remove(layers.size() - 1).color;
    }

    int clean() {
        change();
        int layers = now.accounts[2] - now.accounts[3];
        now.fields.forEach(List::clear);
        Arrays.fill(now.cracked, false);
        now.accounts[2] = 0;
        now.accounts[3] = 0;
        return layers;
    }

    int layer(int field, int layer, int what) {
        if (field < 0 || field > 6 || layer < 0 || what < 0 || what > 2) {
            return INVALID;
        }
        if (layer >= now.fields.get(field).size()) {
            return NOT_FOUND;
        }
        Layer l = now.fields.get(field).get(layer);
        int state = List.of("raw", "grainy", "smooth", "dull", "burnt").indexOf(l.state);
        return new int[] {l.color, state, l.softenings}[what];
    }

    int field(int field, int what) {
        if (field < 0 || field > 6 || what < 0 || what > 5) {
            return INVALID;
        }
        List<Layer> layers = now.fields.get(field);
        if (what == 0) {
            return layers.size();
        }
        if (what == 1) {
            return now.pull(field);
        }
        if (what == 2) {
            return field == 6 ? NOT_FOUND : now.strain(field);
        }
        if (what == 3) {
            return field == 6 ? NOT_FOUND : now.cracked[field] ? 1 : 0;
        }
        if (what == 4) {
            return layers.stream().mapToInt(l -> now.colors.get(l.color)[0]).max().orElse(NOT_FOUND);
        }
        return layers.stream().filter(l -> !l.state.equals("burnt"))
            .mapToInt(l -> now.colors.get(l.color)[1]).min().orElse(NOT_FOUND);
    }

    int set(int what, int value) {
        int[][] ranges = {{1, 10}, {0, 5}, {0, 400}};
        if (what < 0 || what > 2 || value < ranges[what][0] || value > ranges[what][1]) {
            return INVALID;
        }
        change();
        int previous = now.settings[what];
        now.settings[what] = value;
        return previous;
    }

    int count(int what) {
        if (what < 0 || what > 22) {
            return INVALID;
        }
        List<Integer> all = new ArrayList<>();
        all.add(now.colors.size());
        all.add(now.accounts[2] - now.accounts[3]);
        for (String state : List.of("raw", "grainy", "smooth", "dull", "burnt")) {
            all.add((int) now.fields.stream().flatMap(List::stream).filter(l -> l.state.equals(state)).count());
        }
        int cracked = 0;
        for (boolean c : now.cracked) {
            cracked += c ? 1 : 0;
        }
        all.add(cracked);
        for (int setting : now.settings) {
            all.add(setting);
        }
        for (int account : now.accounts) {
            all.add(account);
        }
        all.add(now.wishes.stream().mapToInt(List::size).sum());
        all.add(history.size());
        all.add(text.length());
        return all.get(what);
    }

    int fire(int heat, int minutes) {
        if (heat < 500 || heat > 1200 || minutes < 1 || minutes > 20) {
            return INVALID;
        }
        if (now.accounts[0] >= 1000) {
            return LIMIT;
        }
        change();
        int[] r = now.fire(heat, minutes);
        now.accounts[0]++;
        now.accounts[1] += minutes;
        now.accounts[4] += r[0];
        now.accounts[5] += r[2];
        now.accounts[6] += r[1];
        now.accounts[7] += r[3];
        now.accounts[8] += r[4];
        return r[0];
    }

    int ifFired(int heat, int what) {
        if (heat < 500 || heat > 1200 || what < 0 || what > 4) {
            return INVALID;
        }
        return now.copy().fire(heat, now.settings[0])[what];
    }

    int bestHeat() {
        int best = 0;
        int[] of = null;
        for (int heat = 500; heat <= 1200; heat++) {
            int[] r = now.copy().fire(heat, now.settings[0]);
            if (r[1] > 0) {
                continue;
            }
            if (of == null || r[0] > of[0] || r[0] == of[0] && r[2] < of[2]) {
                best = heat;
                of = r;
            }
        }
        return best;
    }

    int wish(int field, int color) {
        if (field < 0 || field > 5 || color != -1 && !hasColor(color)) {
            return INVALID;
        }
        if (color != -1 && now.wishes.get(field).size() == 3) {
            return LIMIT;
        }
        change();
        if (color == -1) {
            now.wishes.get(field).clear();
        } else {
            now.wishes.get(field).add(color);
        }
        return now.wishes.get(field).size();
    }

    int wished(int field, int index) {
        if (field < 0 || field > 5 || index < 0) {
            return INVALID;
        }
        List<Integer> wish = now.wishes.get(field);
        return index < wish.size() ? wish.get(index) : NOT_FOUND;
    }

    private String planIsFor = "";
    private List<int[]> keptPlan = null;

    private List<int[]> plan() {
        StringBuilder wanted = new StringBuilder("plan");
        for (List<Integer> wish : now.wishes) {
            wish.forEach(c -> wanted.append(Arrays.toString(now.colors.get(c))));
            wanted.append(';');
        }
        if (!planIsFor.equals(wanted.toString())) {
            planIsFor = wanted.toString();
            keptPlan = findPlan();
        }
        return keptPlan;
    }

    /** The best plan as pairs (set, heat), or null: by trying lengths, and sets in their order. */
    private List<int[]> findPlan() {
        int total = now.wishes.stream().mapToInt(List::size).sum();
        Set<Integer> hopeless = new HashSet<>();
        for (int length = 0; length <= total; length++) {
            List<int[]> plan = new ArrayList<>();
            if (planned(new int[6], length, plan, hopeless)) {
                return plan;
            }
        }
        return null;
    }

    private boolean planned(int[] done, int left, List<int[]> plan, Set<Integer> hopeless) {
        boolean ready = true;
        for (int f = 0; f < 6; f++) {
            ready &= done[f] == now.wishes.get(f).size();
            // A firing gives a field one layer at most.
            if (now.wishes.get(f).size() - done[f] > left) {
                return false;
            }
        }
        if (ready || left == 0) {
            return ready && left == 0;
        }
        int key = left;
        for (int layers : done) {
            key = key * 4 + layers;
        }
        if (hopeless.contains(key)) {
            return false;
        }
        for (int set = 1; set < 64; set++) {
            int heat = heatOf(set, done);
            if (heat == 0) {
                continue;
            }
            int[] next = done.clone();
            for (int f = 0; f < 6; f++) {
                next[f] += set >> f & 1;
            }
            plan.add(new int[] {set, heat});
            if (planned(next, left - 1, plan, hopeless)) {
                return true;
            }
            plan.remove(plan.size() - 1);
        }
        hopeless.add(key);
        return false;
    }

    /** The least heat of a firing of this set, or 0. */
    private int heatOf(int set, int[] done) {
        int heat = 500;
        for (int f = 0; f < 6; f++) {
            if ((set >> f & 1) == 1) {
                if (done[f] == now.wishes.get(f).size()) {
                    return 0;
                }
                heat = Math.max(heat, now.colors.get(now.wishes.get(f).get(done[f]))[0]);
            }
        }
        for (int f = 0; f < 6; f++) {
            for (int i = 0; i < done[f] + (set >> f & 1); i++) {
                if (heat > now.colors.get(now.wishes.get(f).get(i))[1]) {
                    return 0;
                }
            }
        }
        return heat;
    }

    int leastFirings() {
        List<int[]> plan = plan();
        return plan == null ? NOT_FOUND : plan.size();
    }

    int planned(int index, int what) {
        if (index < 0 || what < 0 || what > 1) {
            return INVALID;
        }
        List<int[]> plan = plan();
        return plan == null || index >= plan.size() ? NOT_FOUND : plan.get(index)[what];
    }

    int counter() {
        int best = NOT_FOUND;
        int least = Integer.MAX_VALUE;
        for (int color = 0; color < now.colors.size(); color++) {
            int greatest = 0;
            for (int field = 0; field < 6; field++) {
                int back = now.pull(6) + 170 - now.colors.get(color)[2];
                greatest = Math.max(greatest, Math.abs(now.pull(field) - back));
            }
            if (greatest < least) {
                least = greatest;
                best = color;
            }
        }
        return best;
    }

    int undo() {
        if (history.isEmpty()) {
            return IMPOSSIBLE;
        }
        now = history.remove(history.size() - 1);
        return history.size();
    }

    int type(int character) {
        if (character < 32 || character > 126) {
            return INVALID;
        }
        if (text.length() == 80) {
            return LIMIT;
        }
        text += (char) character;
        return text.length();
    }

    int clearText() {
        int length = text.length();
        text = "";
        return length;
    }

    /** What the text could be as far as it goes: it may be begun, and it may be whole. */
    private static boolean canBegin(String part) {
        return part.matches("([0-5]=[a-l]{0,3};)*([0-5](=[a-l]{0,3})?)?");
    }

    private int[] faultOf() {
        for (int i = 0; i < text.length(); i++) {
            char c = text.charAt(i);
            boolean letter = c >= 'a' && c <= 'l';
            boolean inLetters = text.substring(0, i).matches(".*=[a-l]*");
            if (letter && inLetters) {
                if (c - 'a' >= now.colors.size()) {
                    return new int[] {i, 2};
                }
                if (text.substring(0, i).matches(".*=[a-l]{3}")) {
                    return new int[] {i, 3};
                }
            } else if (!canBegin(text.substring(0, i + 1))) {
                return new int[] {i, 1};
            }
        }
        return text.isEmpty() || text.endsWith(";") ? null : new int[] {text.length(), 4};
    }

    int fault(int what) {
        if (what < 0 || what > 1) {
            return INVALID;
        }
        int[] fault = faultOf();
        return fault == null ? NOT_FOUND : fault[what];
    }

    int read() {
        if (faultOf() != null) {
            return IMPOSSIBLE;
        }
        change();
        String[] parts = text.isEmpty() ? new String[0] : text.split(";");
        for (String part : parts) {
            List<Integer> wish = now.wishes.get(part.charAt(0) - '0');
            wish.clear();
            for (int i = 2; i < part.length(); i++) {
                wish.add(part.charAt(i) - 'a');
            }
        }
        return parts.length;
    }
}
