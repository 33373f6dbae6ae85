import java.io.IOException;
import java.nio.file.DirectoryStream;
import java.nio.file.Files;
import java.nio.file.Path;
import java.util.ArrayList;
import java.util.Arrays;
import java.util.List;
import java.util.Map;
import java.util.TreeMap;
import java.util.regex.Matcher;
import java.util.regex.Pattern;

/**
 * Each test of an *EdgesTest says in its comment which sentence of the document it is for, as 'Promise 4:
 * "the sentence"', or 'Promise 4, Plate: "the sentence"' if it stands under 'Terms'. This test looks whether
 * these sentences stand there, and whether every word of the promises and of the terms is said by a test.
 */
final class SentencesTest {
    private static final Path DOCUMENT = Path.of("../shared/DOC.md");
    private static final Path TESTS = Path.of("src/test/java");
    private static final Pattern SAID = Pattern.compile("Promise (\\d+)(?:, ([A-Za-z ]+))?: \"(.*)\"");

    private static final Map<String, String> sections = new TreeMap<>();
    private static final Map<String, List<String>> said = new TreeMap<>();

    public static void main(String[] args) throws IOException {
        readDocument();
        try (DirectoryStream<Path> files = Files.newDirectoryStream(TESTS, "*EdgesTest.java")) {
            for (Path file : files) {
                readTests(file);
            }
        }
        for (int promise = 1; promise <= 23; promise++) {
            Due.is("tests of promise " + promise, said.containsKey("Promise " + promise) ? 1 : 0, 1);
        }
        // Its first sentence is what the class is about, not what it answers.
        sections.remove("What it is");
        sections.forEach(SentencesTest::lookForWords);
        Due.end();
    }

    private static String oneLine(String text) {
        return text.replaceAll("\\s+", " ").trim();
    }

    private static void readDocument() throws IOException {
        for (String section : Files.readString(DOCUMENT).split("(?m)^##+ ")) {
            int end = section.indexOf('\n');
            String name = section.substring(0, Math.max(end, 0)).replaceAll(":.*", "").trim();
            // The lines about the interface's headings say nothing that a call could answer.
            String text = section.substring(end + 1).replaceAll("(?m)^Ahead of the calls.*$", "")
                .replaceAll("(?m)^```.*$", "").replaceAll("(?m)^`(int )?\\w+\\(.*\\)`: ", "");
            sections.put(name, oneLine(text));
        }
        // What stands under these is told by the promises, or is no promise.
        for (String name : new String[] {"", "# EnamelKiln", "The public face", "Terms", "Not promised"}) {
            sections.remove(name);
        }
        Due.is("sections of the document", sections.size(), 23 + 8);
    }

    private static void readTests(Path file) throws IOException {
        String text = Files.readString(file);
        Matcher test = Pattern.compile("(?s)/\\*\\*(.{1,900}?)\\*/\\s+static void (\\w+)\\(\\)").matcher(text);
        int tests = 0;
        while (test.find()) {
            tests++;
            // A comment further up may have been taken along.
            String comment = test.group(1).substring(test.group(1).lastIndexOf("/**") + 1);
            hear(test.group(2), oneLine(comment.replaceAll("(?m)^\\s*\\*", "")));
        }
        int methods = text.split("(?m)^    static void ", -1).length - 1;
        Due.is("tests of " + file + " with a comment", tests, methods);
    }

    private static void hear(String test, String comment) {
        Matcher m = SAID.matcher(comment);
        if (!m.find()) {
            Due.is("the comment of " + test + " names a promise and a sentence", 0, 1);
            return;
        }
        String section = m.group(2) == null ? "Promise " + m.group(1) : m.group(2);
        String sentence = m.group(3);
        boolean stands = sections.getOrDefault(section, "").contains(sentence);
        Due.is("in " + section + " of " + test + " stands: " + sentence, stands ? 1 : 0, 1);
        for (String name : new String[] {section, "Promise " + m.group(1)}) {
            said.computeIfAbsent(name, n -> new ArrayList<>()).add(sentence);
        }
    }

    private static void lookForWords(String section, String text) {
        char[] left = text.toCharArray();
        for (String sentence : said.getOrDefault(section, List.of())) {
            for (int at = text.indexOf(sentence); at >= 0; at = text.indexOf(sentence, at + 1)) {
                Arrays.fill(left, at, at + sentence.length(), '.');
            }
        }
        for (String rest : new String(left).split("\\.{3,}")) {
            boolean words = Pattern.compile("\\w").matcher(rest).find();
            Due.is("a test of '" + rest + "' of " + section, words ? 0 : 1, 1);
        }
    }
}
