/** Compares answers with those that are due, and ends a test. */
final class Due {
    private static int wrong = 0;
    private static int looked = 0;

    private Due() {
    }

    static void is(String call, long got, long want) {
        looked++;
        if (got != want) {
            wrong++;
            System.out.println(call + " answered " + got + ", due is " + want);
        }
    }

    static void type(EnamelKiln kiln, String text) {
        kiln.clearText();
        for (int i = 0; i < text.length(); i++) {
            is("type in " + text, kiln.type(text.charAt(i)), i + 1);
        }
    }

    static void end() {
        System.out.println(looked + " answers, " + wrong + " of them wrong");
        if (wrong != 0 || looked == 0) {
            System.exit(1);
        }
    }
}
