import java.util.Random;

/** Random runs, the same at each time, of the program against PlainKiln: all promises. */
final class PlainModelTest {
    private static final int RUNS = 400;
    // Behind its 512th call nothing is promised of an object; a look at all of it takes 221 calls at most,
    // one at some of it 3.
    private static final int CALLS = 512 - 221 - 2;
    private static final int[] STRANGE = {
        Integer.MIN_VALUE, Integer.MAX_VALUE, -1, -2, 3, 6, 7, 12, 23, 100, 499, 1201, 65536
    };

    private final Random random;
    private final EnamelKiln kiln = new EnamelKiln();
    private final PlainKiln plain = new PlainKiln();
    private final boolean plans;
    private String run = "";
    private int calls = 0;
    private int textPlace = 0;

    private PlainModelTest(int seed) {
        random = new Random(seed);
        plans = seed % 2 == 0;
    }

    public static void main(String[] args) {
        for (int seed = 0; seed < RUNS; seed++) {
            PlainModelTest test = new PlainModelTest(seed);
            while (test.calls < CALLS) {
                test.run = "run " + seed + ", call " + test.calls + ": ";
                test.call();
            }
            test.lookAtAll();
            Due.is("calls of run " + seed + " within 512", Math.max(test.calls, 512), 512);
        }
        Due.end();
    }

    private int one(int least, int greatest) {
        if (random.nextInt(60) == 0) {
            return STRANGE[random.nextInt(STRANGE.length)];
        }
        return least + random.nextInt(greatest - least + 1);
    }

    private int aColor() {
        return one(0, Math.max(0, plain.count(0) - 1));
    }

    private int aHeat() {
        if (plain.count(0) > 0 && random.nextInt(4) > 0) {
            int color = random.nextInt(plain.count(0));
            int[] offsets = {0, -1, 1, -20, -21, -40, -41, 5};
            return plain.colorInfo(color, random.nextInt(2)) + offsets[random.nextInt(offsets.length)];
        }
        return one(500, 1200);
    }

    private int aCharacter() {
        String part = "";
        for (int color = 0; color < plain.count(0); color++) {
            part += (char) ('a' + color);
        }
        int place = textPlace;
        int kind = random.nextInt(50);
        if (kind == 0) {
            return one(31, 127);
        }
        if (kind == 1) {
            return "abcdefghijklm;=0".charAt(random.nextInt(16));
        }
        textPlace = place >= 5 || place >= 2 && random.nextInt(3) == 0 ? 0 : place + 1;
        if (place == 0) {
            return one('0', '5');
        }
        if (place == 1) {
            return '=';
        }
        return textPlace == 0 || part.isEmpty() ? ';' : part.charAt(random.nextInt(part.length()));
    }

    private void due(String call, int got, int want) {
        calls++;
        Due.is(run + call, got, want);
    }

    private void call() {
        int a;
        int b;
        int c;
        switch (random.nextInt(plans ? 40 : 30)) {
            case 0:
                a = one(600, 900);
                b = random.nextInt(3) == 0 ? a + 10 : random.nextInt(3) == 0 ? a + 200 : one(a + 10, a + 200);
                c = one(60, 160);
                due("color(" + a + ", " + b + ", " + c + ")", kiln.color(a, b, c), plain.color(a, b, c));
                break;
            case 1:
                a = aColor();
                b = one(0, 5);
                due("colorInfo(" + a + ", " + b + ")", kiln.colorInfo(a, b), plain.colorInfo(a, b));
                break;
            case 2:
            case 3:
            case 4:
            case 5:
            case 6:
                a = one(0, 6);
                b = aColor();
                due("put(" + a + ", " + b + ")", kiln.put(a, b), plain.put(a, b));
                break;
            case 7:
                a = one(0, 6);
                due("takeOff(" + a + ")", kiln.takeOff(a), plain.takeOff(a));
                break;
            case 8:
                if (random.nextInt(6) == 0) {
                    due("clean()", kiln.clean(), plain.clean());
                }
                break;
            case 9:
                a = one(0, 2);
                b = a == 0 ? one(1, 10) : a == 1 ? one(0, 5) : one(0, 400);
                due("set(" + a + ", " + b + ")", kiln.set(a, b), plain.set(a, b));
                break;
            case 10:
            case 11:
            case 12:
            case 13:
                a = aHeat();
                b = random.nextBoolean() ? plain.count(8) : one(1, 20);
                due("fire(" + a + ", " + b + ")", kiln.fire(a, b), plain.fire(a, b));
                break;
            case 14:
            case 15:
                a = aHeat();
                b = one(0, 4);
                due("ifFired(" + a + ", " + b + ")", kiln.ifFired(a, b), plain.ifFired(a, b));
                break;
            case 16:
                due("bestHeat()", kiln.bestHeat(), plain.bestHeat());
                break;
            case 17:
                due("counter()", kiln.counter(), plain.counter());
                break;
            case 18:
                due("undo()", kiln.undo(), plain.undo());
                break;
            case 19:
                lookAtSome();
                break;
            case 20:
            case 21:
            case 22:
            case 23:
            case 24:
            case 25:
                a = aCharacter();
                due("type(" + a + ")", kiln.type(a), plain.type(a));
                break;
            case 26:
                if (random.nextInt(3) == 0 || plain.fault(1) > 0 && plain.fault(1) < 4) {
                    textPlace = 0;
                    due("clearText()", kiln.clearText(), plain.clearText());
                }
                break;
            case 27:
                due("read()", kiln.read(), plain.read());
                break;
            case 28:
                a = one(0, 1);
                due("fault(" + a + ")", kiln.fault(a), plain.fault(a));
                break;
            case 29:
                a = one(0, 5);
                b = one(0, 2);
                due("wished(" + a + ", " + b + ")", kiln.wished(a, b), plain.wished(a, b));
                break;
            case 30:
            case 31:
            case 32:
            case 33:
            case 34:
                a = one(0, 5);
                b = random.nextInt(8) == 0 ? -1 : aColor();
                due("wish(" + a + ", " + b + ")", kiln.wish(a, b), plain.wish(a, b));
                break;
            case 35:
            case 36:
                due("leastFirings()", kiln.leastFirings(), plain.leastFirings());
                break;
            default:
                a = one(0, Math.max(0, plain.leastFirings()));
                b = one(0, 1);
                due("planned(" + a + ", " + b + ")", kiln.planned(a, b), plain.planned(a, b));
                break;
        }
    }

    private void lookAtSome() {
        int a = one(0, 6);
        int b = one(0, 2);
        int c = one(0, 2);
        int d = one(0, 5);
        int e = one(0, 22);
        due("layer(" + a + ", " + b + ", " + c + ")", kiln.layer(a, b, c), plain.layer(a, b, c));
        due("field(" + a + ", " + d + ")", kiln.field(a, d), plain.field(a, d));
        due("count(" + e + ")", kiln.count(e), plain.count(e));
    }

    private void lookAtAll() {
        for (int what = 0; what < 23; what++) {
            due("count(" + what + ")", kiln.count(what), plain.count(what));
        }
        for (int field = 0; field < 7; field++) {
            for (int what = 0; what < 6; what++) {
                due("field(" + field + ", " + what + ")", kiln.field(field, what), plain.field(field, what));
            }
            for (int layer = 0; layer < 3; layer++) {
                for (int what = 0; what < 3; what++) {
                    due("layer(" + field + ", " + layer + ", " + what + ")",
                        kiln.layer(field, layer, what), plain.layer(field, layer, what));
                }
                due("wished(" + field + ", " + layer + ")", kiln.wished(field, layer), plain.wished(field, layer));
            }
        }
        for (int color = 0; color < plain.count(0); color++) {
            for (int what = 0; what < 6; what++) {
                due("colorInfo(" + color + ", " + what + ")",
                    kiln.colorInfo(color, what), plain.colorInfo(color, what));
            }
        }
    }
}
