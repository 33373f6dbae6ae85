import java.io.IOException;
import java.lang.reflect.Constructor;
import java.lang.reflect.Field;
import java.lang.reflect.Method;
import java.lang.reflect.Modifier;
import java.nio.file.Files;
import java.nio.file.Path;
import java.util.List;
import java.util.Set;
import java.util.TreeSet;
import java.util.regex.Matcher;
import java.util.regex.Pattern;

/** 'The public face' of the document: each constant with its value, each method, and nothing beside them. */
final class FaceTest {
    private static final Path DOCUMENT = Path.of("../shared/DOC.md");
    private static final Path PROGRAM = Path.of("src/main/java/EnamelKiln.java");
    private static final Class<?> KILN = EnamelKiln.class;

    public static void main(String[] args) throws Exception {
        constantsByName();
        theClass();
        membersOfTheClass();
        linesOfTheSource();
        headings();
        Due.end();
    }

    private static void same(String what, Set<String> got, Set<String> due) {
        Set<String> beside = new TreeSet<>(got);
        beside.removeAll(due);
        Set<String> missing = new TreeSet<>(due);
        missing.removeAll(got);
        Due.is(what + " beside the document " + beside, beside.size(), 0);
        Due.is(what + " missing " + missing, missing.size(), 0);
    }

    /** The lines of the document's face without the class around them. */
    private static Set<String> face() throws IOException {
        Matcher block = Pattern.compile("(?s)## The public face\\s+```java\\s+public final class EnamelKiln \\{"
            + "(.*?)\\}\\s+```").matcher(Files.readString(DOCUMENT));
        Due.is("the face stands in the document", block.find() ? 1 : 0, 1);
        Set<String> lines = new TreeSet<>();
        for (String line : block.group(1).split("\n")) {
            if (!line.isBlank()) {
                lines.add(line.trim());
            }
        }
        Due.is("lines of the face", lines.size(), 4 + 1 + 22);
        return lines;
    }

    private static void constantsByName() {
        Due.is("INVALID_ARGUMENT", EnamelKiln.INVALID_ARGUMENT, -1);
        Due.is("NOT_POSSIBLE", EnamelKiln.NOT_POSSIBLE, -2);
        Due.is("LIMIT_REACHED", EnamelKiln.LIMIT_REACHED, -3);
        Due.is("NOT_FOUND", EnamelKiln.NOT_FOUND, -4);
    }

    private static void theClass() {
        Due.is("public final", KILN.getModifiers(), Modifier.PUBLIC | Modifier.FINAL);
        Due.is("without a package", KILN.getPackageName().length(), 0);
        Due.is("of no class but Object", KILN.getSuperclass() == Object.class ? 1 : 0, 1);
        Due.is("interfaces", KILN.getInterfaces().length, 0);
        Due.is("kinds that it is made for", KILN.getTypeParameters().length, 0);
        for (Class<?> inside : KILN.getDeclaredClasses()) {
            int mods = inside.getModifiers();
            Due.is(inside + " is not open", mods & (Modifier.PUBLIC | Modifier.PROTECTED), 0);
            Due.is(inside + " is static", mods & Modifier.STATIC, Modifier.STATIC);
        }
    }

    private static String parameters(Class<?>[] types) {
        StringBuilder names = new StringBuilder("(");
        for (Class<?> type : types) {
            names.append(names.length() > 1 ? ", " : "").append(type.getName());
        }
        return names.append(')').toString();
    }

    /** What others see of the class, written like the document's lines without the names of parameters. */
    private static void membersOfTheClass() throws Exception {
        Set<String> open = new TreeSet<>();
        for (Field f : KILN.getDeclaredFields()) {
            if (!Modifier.isPrivate(f.getModifiers())) {
                String value = Modifier.isStatic(f.getModifiers()) ? " = " + f.get(null) : "";
                open.add(Modifier.toString(f.getModifiers()) + " " + f.getType().getName() + " " + f.getName()
                    + value + ";");
            }
        }
        for (Constructor<?> c : KILN.getDeclaredConstructors()) {
            if (!Modifier.isPrivate(c.getModifiers())) {
                open.add(Modifier.toString(c.getModifiers()) + " EnamelKiln"
                    + parameters(c.getParameterTypes()) + ";");
            }
        }
        for (Method m : KILN.getDeclaredMethods()) {
            if (!Modifier.isPrivate(m.getModifiers())) {
                open.add(Modifier.toString(m.getModifiers()) + " " + m.getReturnType().getName() + " "
                    + m.getName() + parameters(m.getParameterTypes()) + ";");
            }
        }
        Set<String> due = new TreeSet<>();
        for (String line : face()) {
            due.add(line.replaceAll("int \\w+(?=[,)])", "int"));
        }
        same("members", open, due);
    }

    private static void linesOfTheSource() throws IOException {
        Set<String> open = new TreeSet<>();
        for (String line : Files.readAllLines(PROGRAM)) {
            String plain = line.trim();
            if (!plain.startsWith("private") && line.matches("    \\w.*")
                    || line.matches(".*\\b(public|protected)\\b.*")) {
                open.add(plain.replaceAll(" \\{$", ";"));
            }
        }
        Set<String> due = face();
        due.add("public final class EnamelKiln;");
        same("lines of the source", open, due);
    }

    /** 'Ahead of the calls `color`, `colorInfo` the interface says: ---- colors.' */
    private static void headings() throws IOException {
        Matcher said = Pattern.compile("Ahead of the calls? (.*) the interface says: (---- .*)\\.")
            .matcher(Files.readString(DOCUMENT));
        Set<String> due = new TreeSet<>();
        while (said.find()) {
            for (String name : said.group(1).replace("`", "").split(", ")) {
                due.add(name + " behind // " + said.group(2));
            }
        }
        Set<String> got = new TreeSet<>();
        String heading = "none";
        List<String> lines = Files.readAllLines(PROGRAM);
        for (String line : lines) {
            if (line.trim().startsWith("// ----")) {
                heading = line.trim();
            }
            Matcher method = Pattern.compile("    public int (\\w+)\\(.*").matcher(line);
            if (method.matches()) {
                got.add(method.group(1) + " behind " + heading);
            }
        }
        same("headings", got, due);
    }
}
