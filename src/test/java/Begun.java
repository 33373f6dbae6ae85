/** Plates that several tests begin with: the color 0 of the objects melts at 700 and burns above 800. */
final class Begun {
    private Begun() {
    }

    /** With a layer of the color 0 on the field in the state; a dull one has softened once, of none allowed. */
    static EnamelKiln withLayer(EnamelKiln x, int field, int state) {
        x.put(field, 0);
        switch (state) {
            case 1:
                x.fire(660, 1);
                break;
            case 2:
                x.fire(700, 3);
                break;
            case 3:
                x.fire(700, 3);
                x.set(1, 0);
                x.fire(680, 1);
                break;
            case 4:
                x.fire(801, 1);
                break;
            default:
                break;
        }
        Due.is("a layer in the state " + state, x.layer(field, 0, 1), state);
        return x;
    }

    /** With three grainy layers of the color 0 on all fields. */
    static EnamelKiln withFullPlate(EnamelKiln x) {
        for (int layer = 0; layer < 3; layer++) {
            for (int field = 0; field <= 6; field++) {
                Due.is("put on " + field, x.put(field, 0), layer);
            }
            x.fire(660, 1);
        }
        Due.is("grainy ones", x.count(3), 21);
        return x;
    }
}
