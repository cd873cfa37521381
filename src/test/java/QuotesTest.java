import java.io.IOException;
import java.nio.file.DirectoryStream;
import java.nio.file.Files;
import java.nio.file.Path;
import java.util.ArrayList;
import java.util.Comparator;
import java.util.List;
import java.util.Map;
import java.util.TreeMap;
import java.util.regex.Matcher;
import java.util.regex.Pattern;

/**
 * The tests of boundary cases quote the document: each quote stands in the section that it names, and together they
 * leave no word of "Terms" and of the promises without a test.
 */
public final class QuotesTest {
    private static final Path DOCUMENT = Path.of("../shared/DOC.md");
    private static final Path TESTS = Path.of("src/test/java");
    private static final Pattern QUOTE = Pattern.compile("EDGES\\.of\\(\\s*\"([^\"]*)\",\\s*\"([^\"]*)\"\\)");
    // What the sections have beside their sentences: fences, the numbers of parts, a promise's method.
    private static final Pattern FRAME = Pattern.compile("```text|```|==== \\d\\.|^`[^`]*`:");
    private static final Checks CHECKS = new Checks();

    public static void main(String[] args) throws IOException {
        Map<String, String> sections = sectionsOf(Files.readString(DOCUMENT));
        Map<String, String> left = new TreeMap<>(sections);
        List<String[]> quotes = quotesOf(TESTS);
        quotes.sort(Comparator.comparingInt(q -> -q[1].length()));
        for (String[] q : quotes) {
            String text = sections.getOrDefault(q[0], "");
            CHECKS.due("\"" + q[1] + "\" stands in " + q[0], text.contains(q[1]), true);
            left.computeIfPresent(q[0], (name, rest) -> rest.replace(q[1], " "));
        }
        for (Map.Entry<String, String> section : left.entrySet()) {
            if (section.getKey().matches("Terms|Promise \\d+")) {
                String rest = FRAME.matcher(section.getValue()).replaceAll("").replaceAll("\\W+", " ").trim();
                CHECKS.due(section.getKey() + " has words without a test: " + rest, rest.matches("|or|and"), true);
            }
        }
        CHECKS.due("promises of the document", left.keySet().stream().filter(s -> s.startsWith("Promise")).count(), 21);
        CHECKS.close();
    }

    /** By "Terms", "Promise 3" and the like, in one line each. */
    private static Map<String, String> sectionsOf(String document) {
        Map<String, String> sections = new TreeMap<>();
        for (String section : document.split("(?m)^## ")) {
            String[] parts = section.split("\n", 2);
            if (parts.length == 2) {
                sections.put(parts[0].replaceAll(":.*", "").trim(), parts[1].replaceAll("\\s+", " ").trim());
            }
        }
        return sections;
    }

    private static List<String[]> quotesOf(Path folder) throws IOException {
        List<String[]> quotes = new ArrayList<>();
        try (DirectoryStream<Path> files = Files.newDirectoryStream(folder, "*EdgesTest.java")) {
            for (Path file : files) {
                // A quote that is too long for a line is written in two.
                String code = Files.readString(file).replaceAll("\"\\s*\\+\\s*\"", "");
                for (Matcher m = QUOTE.matcher(code); m.find();) {
                    quotes.add(new String[] {m.group(1), m.group(2)});
                }
            }
        }
        return quotes;
    }
}
