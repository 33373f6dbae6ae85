import java.util.ArrayList;
import java.util.List;

/** What can be seen of an object, in few calls, as nothing is promised behind its 512th call. */
final class Sight {
    private Sight() {
    }

    static List<Integer> of(EnamelKiln x) {
        List<Integer> seen = new ArrayList<>();
        for (int what = 0; what <= 22; what++) {
            seen.add(x.count(what));
        }
        int colors = seen.get(0);
        for (int color = 0; color < colors; color++) {
            for (int what = 0; what <= 2; what++) {
                seen.add(x.colorInfo(color, what));
            }
        }
        int layersLeft = seen.get(1);
        int wishesLeft = seen.get(20);
        for (int field = 0; field <= 6; field++) {
            int layers = layersLeft > 0 ? x.field(field, 0) : 0;
            seen.add(layers);
            layersLeft -= layers;
            for (int layer = 0; layer < layers; layer++) {
                for (int what = 0; what <= 2; what++) {
                    seen.add(x.layer(field, layer, what));
                }
            }
            seen.add(layers > 0 ? x.field(field, 3) : 0);
            for (int index = 0; index < 3 && wishesLeft > 0; index++) {
                int color = x.wished(field, index);
                seen.add(color);
                wishesLeft -= color >= 0 ? 1 : 0;
            }
        }
        seen.add(x.fault(0));
        seen.add(x.fault(1));
        return seen;
    }
}
