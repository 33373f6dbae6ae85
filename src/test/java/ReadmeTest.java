import java.io.File;
import java.io.IOException;
import java.net.URL;
import java.net.URLClassLoader;
import java.nio.file.Files;
import java.nio.file.Path;
import java.util.ArrayList;
import java.util.List;
import java.util.regex.Matcher;
import java.util.regex.Pattern;
import javax.tools.ToolProvider;

/**
 * The examples of README.md: each call has its answer in the comment behind it. They are compiled, as they
 * stand there, and run.
 */
final class ReadmeTest {
    private static final Pattern ANSWERED = Pattern.compile("(int \\w+ = )?(kiln\\..*);\\s+// (-?\\d+)(: .*)?");
    private static final Pattern PLAIN =
        Pattern.compile("EnamelKiln kiln = new EnamelKiln\\(\\);|for \\(.*\\) \\{|    kiln\\..*;|\\}");

    private static final List<String> calls = new ArrayList<>();
    private static final List<Integer> due = new ArrayList<>();
    private static final StringBuilder program = new StringBuilder();

    public static void main(String[] args) throws Exception {
        String readme = Files.readString(Path.of("README.md"));
        Matcher block = Pattern.compile("(?s)```java\n(.*?)```").matcher(readme);
        program.append("public final class Examples {\n");
        program.append("public static void run(java.util.List<Integer> answers) {\nint answer;\n");
        int blocks = 0;
        while (block.find()) {
            blocks++;
            program.append("{\n");
            for (String line : block.group(1).split("\n")) {
                take(line);
            }
            program.append("}\n");
        }
        program.append("}\n}\n");
        Due.is("README.md has examples", blocks > 0 ? 1 : 0, 1);
        everyMethodIsShown();
        everyConstantIsTold(readme);
        compare(run());
        Due.end();
    }

    private static void take(String line) {
        Matcher answered = ANSWERED.matcher(line);
        if (!answered.matches()) {
            Due.is("an example without an answer: " + line, PLAIN.matcher(line).matches() ? 0 : 1, 0);
            program.append(line).append('\n');
            return;
        }
        String name = answered.group(1) == null ? "answer = " : answered.group(1);
        program.append(name).append(answered.group(2)).append(";\n");
        program.append("answers.add(").append(name.replaceAll("int | = ", "")).append(");\n");
        calls.add(answered.group(2));
        due.add(Integer.valueOf(answered.group(3)));
    }

    private static void everyMethodIsShown() {
        for (java.lang.reflect.Method m : EnamelKiln.class.getMethods()) {
            if (m.getDeclaringClass() == EnamelKiln.class) {
                boolean shown = program.indexOf("kiln." + m.getName() + "(") >= 0;
                Due.is("README.md shows " + m.getName(), shown ? 1 : 0, 1);
            }
        }
    }

    private static void everyConstantIsTold(String readme) throws IllegalAccessException {
        for (java.lang.reflect.Field f : EnamelKiln.class.getFields()) {
            String row = "| `" + f.getName() + "` | " + f.getInt(null) + " |";
            Due.is("README.md tells " + row, readme.contains(row) ? 1 : 0, 1);
        }
    }

    private static List<Integer> run() throws Exception {
        Path folder = Files.createTempDirectory("readme");
        Path source = folder.resolve("Examples.java");
        List<Integer> answers = new ArrayList<>();
        try {
            Files.writeString(source, program);
            int failed = ToolProvider.getSystemJavaCompiler().run(null, null, null, "-proc:none",
                "-cp", System.getProperty("java.class.path"), "-d", folder.toString(), source.toString());
            Due.is("the examples compile", failed, 0);
            try (URLClassLoader loader = new URLClassLoader(new URL[] {folder.toUri().toURL()})) {
                loader.loadClass("Examples").getMethod("run", List.class).invoke(null, answers);
            }
        } finally {
            remove(folder.toFile());
        }
        return answers;
    }

    private static void remove(File folder) throws IOException {
        for (File file : folder.listFiles()) {
            Files.delete(file.toPath());
        }
        Files.delete(folder.toPath());
    }

    private static void compare(List<Integer> answers) {
        Due.is("answers of README.md", answers.size(), due.size());
        for (int i = 0; i < Math.min(answers.size(), due.size()); i++) {
            Due.is("README.md: " + calls.get(i), answers.get(i), due.get(i));
        }
    }
}
