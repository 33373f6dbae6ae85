import java.io.IOException;
import java.lang.reflect.Field;
import java.lang.reflect.Method;
import java.lang.reflect.Modifier;
import java.nio.file.Files;
import java.nio.file.Path;
import java.util.Set;
import java.util.TreeSet;
import java.util.regex.Matcher;
import java.util.regex.Pattern;

/** The face of the document, and the rules of LANGUAGE.md that can be seen from outside. */
final class LanguageTest {
    private static final String[] FACE = {
        "bestHeat 0", "clean 0", "clearText 0", "color 3", "colorInfo 2", "count 1", "counter 0",
        "fault 1", "field 2", "fire 2", "ifFired 2", "layer 3", "leastFirings 0", "planned 2", "put 2",
        "read 0", "set 2", "takeOff 1", "type 1", "undo 0", "wish 2", "wished 2",
    };
    private static final String[] CONSTANTS = {
        "INVALID_ARGUMENT -1", "LIMIT_REACHED -3", "NOT_FOUND -4", "NOT_POSSIBLE -2",
    };
    private static final String[] FORBIDDEN = {
        "throw", "try", "catch", "finally", "synchronized", "assert", "import", "package", "->", "::",
        "@", "volatile", "transient", "native", "static {", "Object", "double", "float", "var",
    };

    public static void main(String[] args) throws Exception {
        face();
        constants();
        classesInside();
        source();
        callsMakeNoObjects();
        Due.end();
    }

    private static void same(String what, Set<String> got, String[] want) {
        Set<String> due = new TreeSet<>(Set.of(want));
        if (!got.equals(due)) {
            System.out.println(what + ": " + got + ", due is " + due);
        }
        Due.is(what, got.equals(due) ? 1 : 0, 1);
    }

    private static void face() {
        int mods = EnamelKiln.class.getModifiers();
        Due.is("public and final", Modifier.isPublic(mods) && Modifier.isFinal(mods) ? 1 : 0, 1);
        Due.is("constructors", EnamelKiln.class.getDeclaredConstructors().length, 1);
        Set<String> open = new TreeSet<>();
        Set<String> openNames = new TreeSet<>();
        Set<String> closedNames = new TreeSet<>();
        for (Method m : EnamelKiln.class.getDeclaredMethods()) {
            if (Modifier.isPrivate(m.getModifiers())) {
                closedNames.add(m.getName());
            } else {
                open.add(m.getName() + " " + m.getParameterCount());
                openNames.add(m.getName());
                Due.is(m + " answers an int", m.getReturnType() == int.class ? 1 : 0, 1);
                for (Class<?> type : m.getParameterTypes()) {
                    Due.is(m + " takes ints", type == int.class ? 1 : 0, 1);
                }
            }
        }
        same("methods", open, FACE);
        closedNames.retainAll(openNames);
        same("private methods with a public name", closedNames, new String[0]);
    }

    private static void constants() throws IllegalAccessException {
        Set<String> open = new TreeSet<>();
        for (Field f : EnamelKiln.class.getDeclaredFields()) {
            int mods = f.getModifiers();
            if (!Modifier.isPrivate(mods)) {
                Due.is(f + " is a constant", Modifier.isStatic(mods) && Modifier.isFinal(mods) ? 1 : 0, 1);
                open.add(f.getName() + " " + f.getInt(null));
            }
        }
        same("constants", open, CONSTANTS);
    }

    private static void classesInside() {
        Class<?>[] inside = EnamelKiln.class.getDeclaredClasses();
        Due.is("some twelve classes", inside.length <= 11 ? 1 : 0, 1);
        for (Class<?> c : inside) {
            int mods = c.getModifiers();
            Due.is(c + " is static", Modifier.isStatic(mods) ? 1 : 0, 1);
            Due.is(c + " is not open", Modifier.isPublic(mods) || Modifier.isProtected(mods) ? 1 : 0, 0);
            for (Field f : c.getDeclaredFields()) {
                Due.is(f + " is no static variable",
                    Modifier.isStatic(f.getModifiers()) && !Modifier.isFinal(f.getModifiers()) ? 1 : 0, 0);
            }
        }
    }

    private static void source() throws IOException {
        String text = Files.readString(Path.of("src/main/java/EnamelKiln.java"));
        String code = text.replaceAll("(?s)/\\*.*?\\*/", " ").replaceAll("//[^\n]*", " ");
        for (String word : FORBIDDEN) {
            boolean isWord = Character.isLetter(word.charAt(0));
            String pattern = isWord ? "\\b" + Pattern.quote(word) + (word.endsWith("{") ? "" : "\\b")
                : Pattern.quote(word);
            Due.is("no " + word, Pattern.compile(pattern).matcher(code).find() ? 1 : 0, 0);
        }
        Set<String> library = new TreeSet<>();
        Matcher m = Pattern.compile("\\b(Math|System|Arrays|Integer|Long|String|StringBuilder)\\b\\.?\\w*")
            .matcher(code);
        while (m.find()) {
            library.add(m.group());
        }
        same("library", library, new String[] {"Math.abs", "Math.max", "Math.min", "System.arraycopy"});
    }

    /** All calls of a run live in one room: so the constructor makes all objects. */
    private static void callsMakeNoObjects() {
        com.sun.management.ThreadMXBean bean =
            (com.sun.management.ThreadMXBean) java.lang.management.ManagementFactory.getThreadMXBean();
        if (!bean.isThreadAllocatedMemorySupported()) {
            return;
        }
        manyCalls(new EnamelKiln());
        EnamelKiln x = new EnamelKiln();
        bean.getCurrentThreadAllocatedBytes();
        long before = bean.getCurrentThreadAllocatedBytes();
        long empty = bean.getCurrentThreadAllocatedBytes() - before;
        before = bean.getCurrentThreadAllocatedBytes();
        manyCalls(x);
        long made = bean.getCurrentThreadAllocatedBytes() - before - empty;
        Due.is("bytes that the calls of a run make", made, 0);
    }

    private static void manyCalls(EnamelKiln x) {
        for (int i = 0; i < 20; i++) {
            x.color(700 + i, 800, 100);
            x.colorInfo(0, 4);
            x.put(i % 7, 0);
            x.takeOff(i % 7);
            x.put(i % 7, 0);
            x.layer(0, 0, 1);
            x.field(0, 2);
            x.set(2, i);
            x.count(i);
            x.fire(700 + i, 3);
            x.ifFired(700, 3);
            x.bestHeat();
            x.wish(i % 6, 0);
            x.wished(0, 0);
            x.leastFirings();
            x.planned(0, 1);
            x.counter();
            x.undo();
            x.type("0=a;".charAt(i % 4));
            x.fault(0);
            x.read();
            if (i == 18) {
                x.clean();
                x.clearText();
            }
        }
    }
}
