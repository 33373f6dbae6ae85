import java.io.IOException;
import java.lang.reflect.Field;
import java.lang.reflect.Method;
import java.lang.reflect.Modifier;
import java.nio.file.Files;
import java.nio.file.Path;
import java.util.ArrayList;
import java.util.List;
import java.util.Set;
import java.util.TreeSet;
import java.util.regex.Matcher;
import java.util.regex.Pattern;

/** The rules of LANGUAGE.md that can be seen from outside; FaceTest looks after the face. */
final class LanguageTest {
    private static final Path PROGRAM = Path.of("src/main/java/EnamelKiln.java");
    private static final List<Class<?>> CLASSES = classes();
    private static final String[] FORBIDDEN = {
        "throw", "try", "catch", "finally", "synchronized", "assert", "import", "package", "->", "::",
        "@", "volatile", "transient", "native", "static {", "Object", "double", "float", "var",
    };

    public static void main(String[] args) throws IOException {
        classesInside();
        fields();
        methods();
        lengths();
        source();
        callsMakeNoObjects();
        Due.end();
    }

    private static List<Class<?>> classes() {
        List<Class<?>> all = new ArrayList<>(List.of(EnamelKiln.class.getDeclaredClasses()));
        all.add(EnamelKiln.class);
        return all;
    }

    private static void classesInside() {
        Due.is("some twelve classes", CLASSES.size() <= 12 ? 1 : 0, 1);
        for (Class<?> inside : EnamelKiln.class.getDeclaredClasses()) {
            int mods = inside.getModifiers();
            Due.is(inside + " is static", Modifier.isStatic(mods) ? 1 : 0, 1);
            Due.is(inside + " is not open", Modifier.isPublic(mods) || Modifier.isProtected(mods) ? 1 : 0, 0);
            Due.is("classes inside " + inside, inside.getDeclaredClasses().length, 0);
        }
    }

    private static void fields() {
        for (Class<?> c : CLASSES) {
            int fields = 0;
            for (Field f : c.getDeclaredFields()) {
                boolean isStatic = Modifier.isStatic(f.getModifiers());
                Due.is(f + " is no static variable", isStatic && !Modifier.isFinal(f.getModifiers()) ? 1 : 0, 0);
                fields += isStatic ? 0 : 1;
            }
            Due.is("some twenty fields of " + c, fields <= 20 ? 1 : 0, 1);
        }
    }

    private static void methods() {
        Set<String> open = new TreeSet<>();
        Set<String> closed = new TreeSet<>();
        for (Class<?> c : CLASSES) {
            for (Method m : c.getDeclaredMethods()) {
                (Modifier.isPublic(m.getModifiers()) ? open : closed).add(m.getName());
                Due.is("at most seven parameters of " + m, m.getParameterCount() <= 7 ? 1 : 0, 1);
            }
        }
        closed.retainAll(open);
        Due.is("private methods with a public name: " + closed, closed.size(), 0);
    }

    private static void lengths() throws IOException {
        int begin = 0;
        int line = 0;
        int seen = 0;
        for (String text : Files.readAllLines(PROGRAM)) {
            line++;
            if (text.matches(" {4}( {4})?(public|private) .*\\(.*")) {
                begin = line;
            }
            if (text.matches(" {4}( {4})?\\}") && begin > 0) {
                Due.is("a short method behind line " + begin, line - begin < 60 ? 1 : 0, 1);
                begin = 0;
                seen++;
            }
        }
        Due.is("methods of which the length was seen", seen > 22 ? 1 : 0, 1);
    }

    private static void source() throws IOException {
        String text = Files.readString(PROGRAM);
        String code = text.replaceAll("(?s)/\\*.*?\\*/", " ").replaceAll("//[^\n]*", " ");
        for (String word : FORBIDDEN) {
            boolean isWord = Character.isLetter(word.charAt(0));
            String pattern = isWord ? "\\b" + Pattern.quote(word) + (word.endsWith("{") ? "" : "\\b")
                : Pattern.quote(word);
            Due.is("no " + word, Pattern.compile(pattern).matcher(code).find() ? 1 : 0, 0);
        }
        Set<String> library = new TreeSet<>();
        Matcher m = Pattern.compile("\\b(Math|System|Arrays|Integer|Long|String|StringBuilder)\\b\\.?\\w*")
            .matcher(code);
        while (m.find()) {
            library.add(m.group());
        }
        library.removeAll(Set.of("Math.abs", "Math.max", "Math.min", "System.arraycopy"));
        Due.is("library beside what is needed: " + library, library.size(), 0);
    }

    /** All calls of a run live in one room: so the constructor makes all objects. */
    private static void callsMakeNoObjects() {
        com.sun.management.ThreadMXBean bean =
            (com.sun.management.ThreadMXBean) java.lang.management.ManagementFactory.getThreadMXBean();
        if (!bean.isThreadAllocatedMemorySupported()) {
            return;
        }
        manyCalls(new EnamelKiln());
        EnamelKiln x = new EnamelKiln();
        bean.getCurrentThreadAllocatedBytes();
        long before = bean.getCurrentThreadAllocatedBytes();
        long empty = bean.getCurrentThreadAllocatedBytes() - before;
        before = bean.getCurrentThreadAllocatedBytes();
        manyCalls(x);
        long made = bean.getCurrentThreadAllocatedBytes() - before - empty;
        Due.is("bytes that the calls of a run make", made, 0);
    }

    private static void manyCalls(EnamelKiln x) {
        for (int i = 0; i < 20; i++) {
            x.color(700 + i, 800, 100);
            x.colorInfo(0, 4);
            x.put(i % 7, 0);
            x.takeOff(i % 7);
            x.put(i % 7, 0);
            x.layer(0, 0, 1);
            x.field(0, 2);
            x.set(2, i);
            x.count(i);
            x.fire(700 + i, 3);
            x.ifFired(700, 3);
            x.bestHeat();
            x.wish(i % 6, 0);
            x.wished(0, 0);
            x.leastFirings();
            x.planned(0, 1);
            x.counter();
            x.undo();
            x.type("0=a;".charAt(i % 4));
            x.fault(0);
            x.read();
            if (i == 18) {
                x.clean();
                x.clearText();
            }
        }
    }
}
