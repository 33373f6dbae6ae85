import java.lang.reflect.Method;
import java.lang.reflect.Modifier;
import java.util.Arrays;
import java.util.Comparator;
import java.util.List;

/** Compares answers with those that are due, and ends a test. */
final class Due {
    private static int wrong = 0;
    private static int looked = 0;
    private static String at = "";

    private Due() {
    }

    static void is(String call, long got, long want) {
        looked++;
        if (got != want) {
            wrong++;
            System.out.println(at + call + " answered " + got + ", due is " + want);
        }
    }

    /** Two objects look the same, and so do the states of their histories; these are used up. */
    static void same(String when, EnamelKiln got, EnamelKiln want) {
        int left = 0;
        for (int state = 0; state <= 4 && left >= 0; state++) {
            List<Integer> seen = Sight.of(got);
            List<Integer> due = Sight.of(want);
            is(when + ", state " + state + ": " + seen + ", due is " + due, seen.equals(due) ? 1 : 0, 1);
            left = want.undo();
            is(when + ", undo " + state, got.undo(), left);
        }
    }

    static void type(EnamelKiln kiln, String text) {
        kiln.clearText();
        for (int i = 0; i < text.length(); i++) {
            is("type in " + text, kiln.type(text.charAt(i)), i + 1);
        }
    }

    /** Runs each test of a class, those of its methods that are static, not private, and take nothing. */
    static void runAll(Class<?> tests) throws ReflectiveOperationException {
        Method[] methods = tests.getDeclaredMethods();
        Arrays.sort(methods, Comparator.comparing(Method::getName));
        for (Method m : methods) {
            int mods = m.getModifiers();
            if (Modifier.isStatic(mods) && !Modifier.isPrivate(mods) && m.getParameterCount() == 0) {
                at = m.getName() + ": ";
                int before = looked;
                m.invoke(null);
                is("answers looked at", looked > before ? 1 : 0, 1);
            }
        }
        end();
    }

    static void end() {
        System.out.println(looked + " answers, " + wrong + " of them wrong");
        if (wrong != 0 || looked == 0) {
            System.exit(1);
        }
    }
}
