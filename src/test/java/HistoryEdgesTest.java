/** Promise 19, 'Changes and errors', and the 512 calls: the boundary cases, sentence by sentence. */
final class HistoryEdgesTest {
    private static final int INVALID = -1;
    private static final int IMPOSSIBLE = -2;
    private static final int LIMIT = -3;
    private static final int NOT_FOUND = -4;

    public static void main(String[] args) throws ReflectiveOperationException {
        Due.runAll(HistoryEdgesTest.class);
    }

    private static EnamelKiln withColor() {
        EnamelKiln x = new EnamelKiln();
        x.color(700, 800, 100);
        return x;
    }

    /**
     * A raw layer on 0, three on 1, one on 2, where 1 and 2 are cracked, a burnt one on 6, a full wish of 3, a
     * text that ends too early.
     */
    private static EnamelKiln busy() {
        EnamelKiln x = withColor();
        x.color(900, 1000, 160);
        x.set(2, 50);
        for (int index = 0; index < 3; index++) {
            x.wish(3, 0);
        }
        x.put(6, 0);
        x.fire(801, 1);
        for (int layer = 0; layer < 3; layer++) {
            Due.is("put(1, 0)", x.put(1, 0), layer);
            x.fire(660, 1);
        }
        x.put(2, 0);
        Due.is("fire(700, 3)", x.fire(700, 3), 4);
        x.set(1, 0);
        x.put(0, 1);
        Due.type(x, "0=a;1=");
        Due.is("cracked ones", x.count(7), 2);
        return x;
    }

    private static EnamelKiln full() {
        EnamelKiln x = new EnamelKiln();
        for (int color = 0; color < 12; color++) {
            x.color(700, 800, 100);
        }
        for (int length = 0; length < 80; length++) {
            x.type('0');
        }
        return x;
    }

    private static void states(EnamelKiln x, String when, int due) {
        Due.is("states " + when, x.count(21), due);
    }

    // ---- changes

    /**
     * Promise 19, Changes and errors: "The changes are the calls of color, put, takeOff, fire, set, clean,
     * wish and read that return no error."
     */
    static void eachOfTheEightIsAChange() {
        EnamelKiln x = new EnamelKiln();
        Due.is("color", x.color(700, 800, 100), 0);
        states(x, "behind color", 1);
        Due.is("put", x.put(0, 0), 0);
        states(x, "behind put", 2);
        Due.is("takeOff", x.takeOff(0), 0);
        states(x, "behind takeOff", 3);
        Due.is("fire", x.fire(500, 1), 0);
        states(x, "behind fire", 4);
        x.undo();
        x.undo();
        Due.is("set", x.set(1, 2), 2);
        states(x, "behind set", 3);
        Due.is("clean", x.clean(), 1);
        states(x, "behind clean", 4);
        x.undo();
        Due.is("wish", x.wish(0, -1), 0);
        states(x, "behind wish", 4);
        x.undo();
        Due.is("read", x.read(), 0);
        states(x, "behind read", 4);
    }

    /** Promise 19, Changes and errors: "The changes are the calls" (also those by which all stays as it is) */
    static void changesThatChangeNothing() {
        EnamelKiln x = new EnamelKiln();
        x.set(0, 3);
        states(x, "behind the same setting", 1);
        x.clean();
        states(x, "behind clean of a bare plate", 2);
        x.wish(5, -1);
        states(x, "behind emptying an empty wish", 3);
        x.read();
        states(x, "behind read of no wishes", 4);
        for (int left = 3; left >= 0; left--) {
            Due.is("undo()", x.undo(), left);
        }
    }

    /** Promise 19, Changes and errors: "that return no error" (and the calls that are none of the eight) */
    static void otherCallsAreNoChanges() {
        EnamelKiln x = busy();
        x.undo();
        states(x, "behind undo", 3);
        int[] answers = {
            x.colorInfo(0, 0), x.layer(1, 0, 0), x.field(0, 0), x.count(0), x.ifFired(700, 0), x.bestHeat(),
            x.wished(3, 0), x.leastFirings(), x.planned(0, 0), x.counter(), x.type('a'), x.fault(0),
            x.clearText(), x.type('x'),
        };
        for (int i = 0; i < answers.length; i++) {
            Due.is("no error " + i, answers[i] >= 0 ? 1 : 0, 1);
        }
        states(x, "behind calls that are no changes", 3);
        Due.is("read() of a fault", x.read(), IMPOSSIBLE);
        states(x, "behind an error", 3);
    }

    /**
     * Promise 19, Changes and errors: "A history of at most 4 states is kept: each change records everything
     * before it but the text, and if there are 5 states then, the oldest one is dropped."
     */
    static void fourStatesAreKept() {
        for (int changes = 0; changes <= 9; changes++) {
            EnamelKiln x = new EnamelKiln();
            for (int change = 1; change <= changes; change++) {
                x.set(0, change);
                states(x, "behind " + change, Math.min(change, 4));
            }
            int kept = Math.min(changes, 4);
            for (int back = 1; back <= kept; back++) {
                Due.is("undo()", x.undo(), kept - back);
                Due.is("the setting", x.count(8), changes == back ? 3 : changes - back);
            }
            Due.is("undo() of no more", x.undo(), IMPOSSIBLE);
        }
    }

    /** Promise 19, Changes and errors: "each change records everything before it" (every kind of change is undone) */
    static void eachChangeRecordsEverything() {
        for (int change = 0; change < 9; change++) {
            EnamelKiln x = busy();
            Due.is("clearText()", x.clearText(), 6);
            Due.type(x, "3=;1=ab;");
            int[] answers = {0, 0, 0, 0, 0, 0, 0, 0, 0};
            switch (change) {
                case 0 -> answers[0] = x.color(650, 700, 90);
                case 1 -> answers[1] = x.put(5, 1);
                case 2 -> answers[2] = x.takeOff(0);
                case 3 -> answers[3] = x.fire(760, 20);
                case 4 -> answers[4] = x.set(2, 400);
                case 5 -> answers[5] = x.clean();
                case 6 -> answers[6] = x.wish(3, -1);
                case 7 -> answers[7] = x.read();
                default -> answers[8] = x.fire(1200, 3);
            }
            Due.is("no error " + change, answers[change] >= 0 ? 1 : 0, 1);
            states(x, "behind it", 4);
            Due.is("undo()", x.undo(), 3);
            EnamelKiln y = busy();
            y.clearText();
            Due.type(y, "3=;1=ab;");
            // The change made the oldest of the four states go; another change that is undone does so, too.
            y.set(0, 9);
            y.undo();
            Due.same("behind undo of " + change, x, y);
        }
    }

    /** Promise 19, Changes and errors: "everything before it but the text" */
    static void theTextIsNotRecorded() {
        EnamelKiln x = withColor();
        Due.type(x, "0=a;");
        x.read();
        x.type('1');
        x.type('=');
        Due.is("undo()", x.undo(), 1);
        Due.is("length", x.count(22), 6);
        Due.is("fault(0)", x.fault(0), 6);
        Due.is("wishes", x.count(20), 0);
        x.clearText();
        Due.is("undo()", x.undo(), 0);
        Due.is("length", x.count(22), 0);
        x.type('0');
        Due.is("undo() of a text", x.undo(), IMPOSSIBLE);
        Due.is("length", x.count(22), 1);
    }

    /** Promise 19, Changes and errors: "and if there are 5 states then, the oldest one is dropped." (behind undo) */
    static void droppedAgainBehindUndo() {
        EnamelKiln x = new EnamelKiln();
        for (int time = 4; time <= 9; time++) {
            x.set(0, time);
        }
        x.undo();
        x.undo();
        Due.is("the time", x.count(8), 7);
        x.set(0, 1);
        x.set(0, 2);
        states(x, "behind two more", 4);
        x.set(0, 10);
        states(x, "behind a third", 4);
        int[] times = {2, 1, 7, 6};
        for (int i = 0; i < 4; i++) {
            Due.is("undo()", x.undo(), 3 - i);
            Due.is("the time", x.count(8), times[i]);
        }
        Due.is("undo() of no more", x.undo(), IMPOSSIBLE);
    }

    // ---- errors

    /**
     * Promise 19, Changes and errors: "If several errors apply to a call, INVALID_ARGUMENT is returned rather
     * than NOT_POSSIBLE, NOT_POSSIBLE rather than LIMIT_REACHED, and LIMIT_REACHED rather than NOT_FOUND."
     */
    static void firstErrorOfSeveral() {
        EnamelKiln x = busy();
        Due.is("INVALID before NOT_POSSIBLE: put", x.put(0, 2), INVALID);
        Due.is("INVALID before NOT_POSSIBLE: put", x.put(0, -1), INVALID);
        Due.is("NOT_POSSIBLE alone: put", x.put(0, 1), IMPOSSIBLE);
        Due.is("INVALID before LIMIT: put", x.put(1, 2), INVALID);
        Due.is("LIMIT alone: put", x.put(1, 1), LIMIT);
        Due.is("INVALID before LIMIT: wish", x.wish(3, 2), INVALID);
        Due.is("INVALID before LIMIT: wish", x.wish(3, -2), INVALID);
        Due.is("LIMIT alone: wish", x.wish(3, 1), LIMIT);
        Due.is("INVALID before NOT_FOUND: layer", x.layer(0, 3, 3), INVALID);
        Due.is("INVALID before NOT_FOUND: layer", x.layer(7, 3, 0), INVALID);
        Due.is("NOT_FOUND alone: layer", x.layer(0, 3, 0), NOT_FOUND);
        Due.is("INVALID before NOT_FOUND: field", x.field(7, 2), INVALID);
        Due.is("INVALID before NOT_FOUND: field", x.field(7, 4), INVALID);
        Due.is("NOT_FOUND alone: field", x.field(6, 2), NOT_FOUND);
        Due.is("INVALID before NOT_FOUND: wished", x.wished(6, 3), INVALID);
        Due.is("NOT_FOUND alone: wished", x.wished(3, 3), NOT_FOUND);
        Due.is("INVALID before NOT_FOUND: planned", x.planned(9, 2), INVALID);
        Due.is("NOT_FOUND alone: planned", x.planned(9, 1), NOT_FOUND);
        Due.is("INVALID before NOT_FOUND: fault", new EnamelKiln().fault(2), INVALID);
        Due.is("NOT_FOUND alone: fault", new EnamelKiln().fault(1), NOT_FOUND);
        EnamelKiln y = full();
        Due.is("INVALID before LIMIT: color", y.color(599, 700, 100), INVALID);
        Due.is("INVALID before LIMIT: color", y.color(700, 800, 161), INVALID);
        Due.is("LIMIT alone: color", y.color(700, 800, 160), LIMIT);
        Due.is("INVALID before LIMIT: type", y.type(31), INVALID);
        Due.is("INVALID before LIMIT: type", y.type(127), INVALID);
        Due.is("LIMIT alone: type", y.type(126), LIMIT);
    }

    /** Promise 4, Changes and errors: "NOT_POSSIBLE rather than LIMIT_REACHED" */
    static void notPossibleBeforeLimit() {
        EnamelKiln x = withColor();
        x.put(4, 0);
        x.fire(660, 1);
        x.put(4, 0);
        x.fire(660, 1);
        x.put(4, 0);
        Due.is("put on three, the last one raw", x.put(4, 0), IMPOSSIBLE);
        Due.is("put of no color", x.put(4, 1), INVALID);
        x.fire(660, 1);
        Due.is("put on three, none raw", x.put(4, 0), LIMIT);
    }

    /** The answers of calls that are errors of the busy object; they may have changed nothing. */
    private static int busyError(EnamelKiln x, int call) {
        int[] answers = new int[42];
        switch (call) {
            case 0 -> answers[0] = x.color(599, 700, 100);
            case 1 -> answers[1] = x.color(700, 901, 100);
            case 2 -> answers[2] = x.color(700, 800, 161);
            case 3 -> answers[3] = x.colorInfo(2, 0);
            case 4 -> answers[4] = x.colorInfo(0, 6);
            case 5 -> answers[5] = x.put(7, 0);
            case 6 -> answers[6] = x.put(5, 2);
            case 7 -> answers[7] = x.put(0, 0);
            case 8 -> answers[8] = x.put(1, 0);
            case 9 -> answers[9] = x.takeOff(7);
            case 10 -> answers[10] = x.takeOff(1);
            case 11 -> answers[11] = x.takeOff(5);
            case 12 -> answers[12] = x.layer(7, 0, 0);
            case 13 -> answers[13] = x.layer(0, -1, 0);
            case 14 -> answers[14] = x.layer(0, 1, 0);
            case 15 -> answers[15] = x.field(7, 0);
            case 16 -> answers[16] = x.field(6, 2);
            case 17 -> answers[17] = x.field(6, 3);
            case 18 -> answers[18] = x.field(5, 4);
            case 19 -> answers[19] = x.field(6, 5);
            case 20 -> answers[20] = x.set(3, 1);
            case 21 -> answers[21] = x.set(0, 11);
            case 22 -> answers[22] = x.set(1, -1);
            case 23 -> answers[23] = x.set(2, 401);
            case 24 -> answers[24] = x.count(23);
            case 25 -> answers[25] = x.fire(499, 3);
            case 26 -> answers[26] = x.fire(1201, 3);
            case 27 -> answers[27] = x.fire(700, 0);
            case 28 -> answers[28] = x.fire(700, 21);
            case 29 -> answers[29] = x.ifFired(1201, 0);
            case 30 -> answers[30] = x.ifFired(700, 5);
            case 31 -> answers[31] = x.wish(6, 0);
            case 32 -> answers[32] = x.wish(0, 2);
            case 33 -> answers[33] = x.wish(3, 0);
            case 34 -> answers[34] = x.wished(6, 0);
            case 35 -> answers[35] = x.wished(0, 0);
            case 36 -> answers[36] = x.planned(-1, 0);
            case 37 -> answers[37] = x.planned(3, 0);
            case 38 -> answers[38] = x.type(31);
            case 39 -> answers[39] = x.type(127);
            case 40 -> answers[40] = x.fault(2);
            default -> answers[41] = x.read();
        }
        return answers[call];
    }

    /** Promise 19, Changes and errors: "A call that returns an error changes nothing." */
    static void errorsChangeNothing() {
        for (int call = 0; call <= 41; call++) {
            EnamelKiln x = busy();
            Due.is("error " + call, busyError(x, call) < 0 ? 1 : 0, 1);
            Due.same("behind error " + call, x, busy());
        }
    }

    /** Promise 19, Changes and errors: "A call that returns an error changes nothing." (at the limits, and of nothing) */
    static void errorsAtTheLimitsChangeNothing() {
        EnamelKiln x = full();
        Due.is("a thirteenth color", x.color(650, 700, 90), LIMIT);
        Due.is("an 81st character", x.type('x'), LIMIT);
        Due.is("read() of a fault", x.read(), IMPOSSIBLE);
        Due.same("behind errors at the limits", x, full());
        EnamelKiln y = new EnamelKiln();
        Due.is("undo() of nothing", y.undo(), IMPOSSIBLE);
        Due.is("counter() of no color", y.counter(), NOT_FOUND);
        Due.is("fault(0) of no text", y.fault(0), NOT_FOUND);
        Due.is("planned(0, 0) of no wish", y.planned(0, 0), NOT_FOUND);
        Due.is("takeOff(0) of nothing", y.takeOff(0), IMPOSSIBLE);
        Due.same("behind errors of a new one", y, new EnamelKiln());
    }

    /**
     * Promise 3, Changes and errors: "If there is no color with a certain number, this is INVALID_ARGUMENT."
     */
    static void noSuchColor() {
        for (int colors = 0; colors <= 12; colors++) {
            EnamelKiln x = new EnamelKiln();
            for (int color = 0; color < colors; color++) {
                x.color(700, 800, 100);
            }
            Due.is("colorInfo", x.colorInfo(colors, 0), INVALID);
            Due.is("put", x.put(0, colors), INVALID);
            Due.is("wish", x.wish(0, colors), INVALID);
            if (colors > 0) {
                Due.is("colorInfo of the last", x.colorInfo(colors - 1, 0), 700);
                Due.is("put of the last", x.put(0, colors - 1), 0);
                Due.is("wish of the last", x.wish(0, colors - 1), 1);
            }
        }
    }

    /**
     * Promise 2, Changes and errors: "The constants: `INVALID_ARGUMENT = -1`: An argument is out of its range,
     * or there is no such color."
     */
    static void invalidArgumentIsMinusOne() {
        Due.is("INVALID_ARGUMENT", EnamelKiln.INVALID_ARGUMENT, -1);
        Due.is("out of its range", new EnamelKiln().count(23), -1);
        Due.is("no such color", new EnamelKiln().colorInfo(0, 0), -1);
    }

    /** Promise 5, Changes and errors: "`NOT_POSSIBLE = -2`: The call is not possible in the present state." */
    static void notPossibleIsMinusTwo() {
        Due.is("NOT_POSSIBLE", EnamelKiln.NOT_POSSIBLE, -2);
        Due.is("takeOff(0) of nothing", new EnamelKiln().takeOff(0), -2);
    }

    /** Promise 14, Changes and errors: "`LIMIT_REACHED = -3`: A fixed limit has been reached." */
    static void limitReachedIsMinusThree() {
        Due.is("LIMIT_REACHED", EnamelKiln.LIMIT_REACHED, -3);
        EnamelKiln x = withColor();
        for (int index = 0; index < 3; index++) {
            Due.is("wish(0, 0)", x.wish(0, 0), index + 1);
        }
        Due.is("a fourth", x.wish(0, 0), -3);
    }

    /** Promise 15, Changes and errors: "`NOT_FOUND = -4`: There is no such value." */
    static void notFoundIsMinusFour() {
        Due.is("NOT_FOUND", EnamelKiln.NOT_FOUND, -4);
        Due.is("wished(0, 0) of none", new EnamelKiln().wished(0, 0), -4);
    }

    // ---- undo

    /** Promise 19: "Restores the latest state of the history, which is removed from it." */
    static void undoGoesBackOneByOne() {
        EnamelKiln x = new EnamelKiln();
        x.color(700, 800, 100);
        x.put(0, 0);
        x.fire(700, 3);
        x.clean();
        x.undo();
        Due.is("as fired", x.layer(0, 0, 1), 2);
        Due.is("layers that were put", x.count(13), 1);
        x.undo();
        Due.is("as put", x.layer(0, 0, 1), 0);
        Due.is("firings", x.count(11), 0);
        x.undo();
        Due.is("bare", x.field(0, 0), 0);
        Due.is("colors", x.count(0), 1);
        x.undo();
        Due.is("colors", x.count(0), 0);
        Due.same("in the end", x, new EnamelKiln());
    }

    /** Promise 19: "Restores the latest state of the history" (cracks, softenings, settings, accounts and wishes) */
    static void undoOfAFiring() {
        for (int heat : new int[] {500, 680, 700, 760, 801, 900, 1200}) {
            EnamelKiln x = busy();
            x.fire(heat, 3);
            x.undo();
            EnamelKiln y = busy();
            y.clean();
            y.undo();
            Due.same("behind undo of " + heat, x, y);
        }
    }

    /** Promise 19: "Restores the latest state of the history" (wishes in whose place others came) */
    static void undoOfWishesThatWereReplaced() {
        EnamelKiln x = withColor();
        x.color(760, 900, 100);
        x.wish(0, 0);
        x.wish(0, -1);
        x.wish(0, 1);
        Due.is("the new one", x.wished(0, 0), 1);
        Due.is("its heat", x.planned(0, 1), 760);
        x.undo();
        Due.is("none", x.wished(0, 0), NOT_FOUND);
        x.undo();
        Due.is("the old one", x.wished(0, 0), 0);
        Due.is("its heat", x.planned(0, 1), 700);
        Due.type(x, "0=b;5=bb;");
        Due.is("read()", x.read(), 2);
        Due.is("the read one", x.wished(0, 0), 1);
        x.undo();
        Due.is("the old one", x.wished(0, 0), 0);
        Due.is("none", x.wished(5, 0), NOT_FOUND);
        Due.is("firings", x.leastFirings(), 1);
    }

    /** Promise 19: "Restores the latest state of the history" (layers in whose place others came) */
    static void undoOfLayersThatWereReplaced() {
        for (int field = 0; field <= 6; field++) {
            EnamelKiln x = withColor();
            x.color(720, 900, 130);
            x.put(field, 0);
            x.takeOff(field);
            x.put(field, 1);
            Due.is("the new one", x.layer(field, 0, 0), 1);
            x.undo();
            Due.is("none", x.layer(field, 0, 0), NOT_FOUND);
            x.undo();
            Due.is("the old one", x.layer(field, 0, 0), 0);
            x.fire(700, 3);
            x.clean();
            x.put(field, 1);
            Due.is("the new one", x.layer(field, 0, 1), 0);
            x.undo();
            x.undo();
            Due.is("the color of the old one", x.layer(field, 0, 0), 0);
            Due.is("its state", x.layer(field, 0, 1), 2);
            Due.is("its pull", x.field(field, 1), 70);
        }
    }

    /** Promise 19: "Restores the latest state of the history" (each softening of each layer) */
    static void undoOfSoftenings() {
        EnamelKiln x = new EnamelKiln();
        for (int color = 0; color <= 6; color++) {
            x.color(700, 800, 100);
        }
        for (int field = 0; field <= 6; field++) {
            x.put(field, field);
            x.fire(700, 3);
        }
        for (int field = 0; field <= 6; field++) {
            Due.is("softenings of " + field, x.layer(field, 0, 2), 6 - field);
        }
        x.fire(680, 1);
        x.fire(680, 1);
        for (int back = 1; back >= 0; back--) {
            Due.is("undo()", x.undo() >= 0 ? 1 : 0, 1);
            for (int field = 0; field <= 6; field++) {
                Due.is("softenings of " + field, x.layer(field, 0, 2), 6 - field + back);
                Due.is("state of " + field, x.layer(field, 0, 1), 6 - field + back > 2 ? 3 : 2);
            }
        }
    }

    /** Promise 19: "Returns the number of states that are left in the history" */
    static void undoReturnsWhatIsLeft() {
        for (int changes = 1; changes <= 6; changes++) {
            EnamelKiln x = new EnamelKiln();
            for (int change = 0; change < changes; change++) {
                x.clean();
            }
            for (int left = Math.min(changes, 4) - 1; left >= 0; left--) {
                Due.is("undo()", x.undo(), left);
                states(x, "left", left);
            }
        }
    }

    /** Promise 19: "NOT_POSSIBLE if it is empty" */
    static void undoOfNothing() {
        EnamelKiln x = new EnamelKiln();
        Due.is("undo() of a new one", x.undo(), IMPOSSIBLE);
        x.type('0');
        Due.is("undo() of a text", x.undo(), IMPOSSIBLE);
        x.clean();
        Due.is("undo()", x.undo(), 0);
        Due.is("undo() again", x.undo(), IMPOSSIBLE);
        Due.is("undo() once more", x.undo(), IMPOSSIBLE);
        states(x, "of none", 0);
    }

    /**
     * Promise 1, What it is: "An object is used for at most 512 calls after it has been made; what later
     * calls answer is free."
     */
    static void the512thCallAnswers() {
        EnamelKiln x = new EnamelKiln();
        Due.is("color", x.color(700, 800, 100), 0);
        for (int call = 2; call <= 511; call++) {
            if (call % 2 == 0) {
                Due.is("call " + call, x.put(call % 7, 0), 0);
            } else {
                Due.is("call " + call, x.takeOff((call - 1) % 7), 0);
            }
        }
        Due.is("the 512th call", x.count(13), 255);
        EnamelKiln y = new EnamelKiln();
        y.color(700, 800, 100);
        for (int call = 2; call <= 511; call++) {
            y.wish(0, call % 4 == 2 ? -1 : 0);
        }
        Due.is("the 512th call", y.leastFirings(), 1);
    }
}
