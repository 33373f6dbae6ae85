/** Promises 20 to 23. */
final class TextsTest {
    private static final int MIN = Integer.MIN_VALUE;
    private static final int MAX = Integer.MAX_VALUE;
    private static final int INVALID = EnamelKiln.INVALID_ARGUMENT;
    private static final int NOT_FOUND = EnamelKiln.NOT_FOUND;

    public static void main(String[] args) {
        promise20Type();
        promise21ClearText();
        promise22Fault();
        promise22NoFault();
        promise22WrongInputs();
        promise22FollowsColors();
        promise23Read();
        promise23Faults();
        promise23Longest();
        Due.end();
    }

    private static EnamelKiln withColors(int colors) {
        EnamelKiln x = new EnamelKiln();
        for (int color = 0; color < colors; color++) {
            x.color(700, 800, 100);
        }
        return x;
    }

    private static void promise20Type() {
        EnamelKiln x = new EnamelKiln();
        Due.is("type(31)", x.type(31), INVALID);
        Due.is("type(127)", x.type(127), INVALID);
        Due.is("type(MIN)", x.type(MIN), INVALID);
        Due.is("type(MAX)", x.type(MAX), INVALID);
        Due.is("type('0' + 65536)", x.type('0' + 65536), INVALID);
        Due.is("type(32)", x.type(32), 1);
        Due.is("type(126)", x.type(126), 2);
        for (int length = 3; length <= 80; length++) {
            Due.is("type(48)", x.type(48), length);
        }
        Due.is("the 81st", x.type(48), EnamelKiln.LIMIT_REACHED);
        Due.is("a wrong 81st", x.type(31), INVALID);
        Due.is("count(22)", x.count(22), 80);
        Due.is("no change", x.count(21), 0);
    }

    private static void promise21ClearText() {
        EnamelKiln x = new EnamelKiln();
        Due.is("clearText() of none", x.clearText(), 0);
        Due.type(x, "0=;");
        Due.is("clearText()", x.clearText(), 3);
        Due.is("count(22)", x.count(22), 0);
        Due.is("clearText() again", x.clearText(), 0);
        Due.is("type(48)", x.type(48), 1);
        Due.is("no change", x.count(21), 0);
    }

    private static void fault(String text, int colors, int position, int reason) {
        EnamelKiln x = withColors(colors);
        Due.type(x, text);
        Due.is("fault(0) of " + text, x.fault(0), position);
        Due.is("fault(1) of " + text, x.fault(1), reason);
        Due.is("read() of " + text, x.read(), EnamelKiln.NOT_POSSIBLE);
    }

    private static void promise22Fault() {
        fault("6=;", 3, 0, 1);
        fault("/=;", 3, 0, 1);
        fault(" 0=;", 3, 0, 1);
        fault("=a;", 3, 0, 1);
        fault(";", 3, 0, 1);
        fault("a", 3, 0, 1);
        fault("l", 3, 0, 1);
        fault("0;", 3, 1, 1);
        fault("0a", 3, 1, 1);
        fault("0d", 3, 1, 1);
        fault("00", 3, 1, 1);
        fault("0=m;", 3, 2, 1);
        fault("0=A;", 3, 2, 1);
        fault("0=`;", 12, 2, 1);
        fault("0==;", 3, 2, 1);
        fault("0=0", 3, 2, 1);
        fault("0=a ;", 3, 3, 1);
        fault("0=abc0", 3, 5, 1);
        fault("0=abcm", 3, 5, 1);
        fault("0=a;;", 3, 4, 1);
        fault("0=a;1=b;7", 3, 8, 1);
        fault("0=d;", 3, 2, 2);
        fault("0=abd;", 3, 4, 2);
        fault("0=l;", 11, 2, 2);
        fault("0=a;", 0, 2, 2);
        fault("0=abcd", 3, 5, 2);
        fault("0=abca", 3, 5, 3);
        fault("0=aaab;", 3, 5, 3);
        fault("1=;0=lllll", 12, 8, 3);
        fault("0", 3, 1, 4);
        fault("0=", 3, 2, 4);
        fault("0=a", 3, 3, 4);
        fault("0=abc", 3, 5, 4);
        fault("0=abc;5", 3, 7, 4);
    }

    private static void noFault(String text, int colors) {
        EnamelKiln x = withColors(colors);
        Due.type(x, text);
        Due.is("fault(0) of " + text, x.fault(0), NOT_FOUND);
        Due.is("fault(1) of " + text, x.fault(1), NOT_FOUND);
    }

    private static void promise22NoFault() {
        noFault("", 0);
        noFault("0=;", 0);
        noFault("5=abc;", 3);
        noFault("0=l;1=lll;", 12);
        noFault("0=a;0=;0=b;1=cab;2=;3=aa;4=b;5=c;", 3);
    }

    private static void promise22WrongInputs() {
        EnamelKiln x = withColors(1);
        Due.is("fault(2)", x.fault(2), INVALID);
        Due.type(x, "x");
        Due.is("fault(-1)", x.fault(-1), INVALID);
        Due.is("fault(2)", x.fault(2), INVALID);
        Due.is("fault(MIN)", x.fault(MIN), INVALID);
        Due.is("fault(MAX)", x.fault(MAX), INVALID);
    }

    private static void promise22FollowsColors() {
        EnamelKiln x = withColors(1);
        Due.type(x, "0=b;");
        Due.is("fault(1) without b", x.fault(1), 2);
        x.color(700, 800, 100);
        Due.is("fault(1) with b", x.fault(1), NOT_FOUND);
        x.undo();
        Due.is("fault(0) without b again", x.fault(0), 2);
        x.clearText();
        Due.is("fault(0) of none", x.fault(0), NOT_FOUND);
    }

    private static void wishes(EnamelKiln x, int field, int... colors) {
        for (int i = 0; i < 3; i++) {
            Due.is("wished(" + field + ", " + i + ")", x.wished(field, i),
                i < colors.length ? colors[i] : NOT_FOUND);
        }
    }

    private static void promise23Read() {
        EnamelKiln x = withColors(3);
        Due.is("read() of none", x.read(), 0);
        x.wish(1, 2);
        x.wish(2, 2);
        x.wish(2, 2);
        x.wish(4, 0);
        Due.type(x, "0=abc;2=b;4=;");
        Due.is("read()", x.read(), 3);
        wishes(x, 0, 0, 1, 2);
        wishes(x, 1, 2);
        wishes(x, 2, 1);
        wishes(x, 4);
        Due.is("count(20)", x.count(20), 5);
        Due.is("the text stays", x.count(22), 13);
        Due.is("read() again", x.read(), 3);
        wishes(x, 0, 0, 1, 2);
        Due.type(x, "0=cc;5=a;0=b;5=;5=ca;");
        Due.is("read() of several for one field", x.read(), 5);
        wishes(x, 0, 1);
        wishes(x, 5, 2, 0);
        wishes(x, 2, 1);
        x.undo();
        wishes(x, 0, 0, 1, 2);
        wishes(x, 5);
        Due.type(x, "0=;0=;");
        Due.is("read() of empty ones", x.read(), 2);
        wishes(x, 0);
    }

    private static void promise23Faults() {
        EnamelKiln x = withColors(3);
        x.wish(0, 1);
        int states = x.count(21);
        Due.type(x, "0=a;1=b;2=");
        Due.is("read()", x.read(), EnamelKiln.NOT_POSSIBLE);
        wishes(x, 0, 1);
        wishes(x, 1);
        Due.is("count(21)", x.count(21), states);
        Due.is("the text stays", x.count(22), 10);
    }

    private static void promise23Longest() {
        EnamelKiln x = withColors(1);
        StringBuilder text = new StringBuilder();
        for (int i = 0; i < 20; i++) {
            text.append("3=a;");
        }
        Due.type(x, text.toString());
        Due.is("fault(0)", x.fault(0), NOT_FOUND);
        Due.is("read() of 80 characters", x.read(), 20);
        wishes(x, 3, 0);
    }
}
