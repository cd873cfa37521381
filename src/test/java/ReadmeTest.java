import java.io.IOException;
import java.lang.reflect.Method;
import java.lang.reflect.Modifier;
import java.nio.file.Files;
import java.nio.file.Path;
import java.util.ArrayList;
import java.util.List;
import java.util.TreeSet;
import java.util.regex.Matcher;
import java.util.regex.Pattern;

/** What README.md says of the class holds: the answers beside its example's calls, and its list of calls. */
public final class ReadmeTest {
    private static final Path README = Path.of("README.md");
    private static final Pattern EXAMPLE = Pattern.compile("(?s)```java\n(.*?)```");
    // A line of the example: a call, and beside it the answer.
    private static final Pattern LINE = Pattern.compile(
        "(?:int (\\w+) = )?registry\\.(\\w+)\\(([^)]*)\\); +// (-?\\w+).*");
    private static final Pattern ROW = Pattern.compile("(?m)^\\| `(\\w+)\\(([^)]*)\\)` \\|");
    private static final Checks CHECKS = new Checks();

    private final FoulRights registry = new FoulRights();
    private final List<String> names = new ArrayList<>();
    private final List<Integer> values = new ArrayList<>();

    public static void main(String[] args) throws IOException, ReflectiveOperationException {
        String readme = Files.readString(README);
        Matcher example = EXAMPLE.matcher(readme);
        CHECKS.due("README.md has an example", example.find(), true);
        new ReadmeTest().play(example.group(1).split("\n"));
        listOfCalls(readme);
        CHECKS.close();
    }

    private void play(String[] lines) throws ReflectiveOperationException {
        CHECKS.due(lines[0], lines[0].equals("FoulRights registry = new FoulRights();"), true);
        for (int i = 1; i < lines.length; i++) {
            Matcher line = LINE.matcher(lines[i]);
            boolean reads = line.matches();
            CHECKS.due("it reads as a call and its answer: " + lines[i], reads, true);
            if (reads) {
                play(line);
            }
        }
    }

    private void play(Matcher line) throws ReflectiveOperationException {
        String[] words = line.group(3).isEmpty() ? new String[0] : line.group(3).split(", ");
        Object[] arguments = new Object[words.length];
        Class<?>[] types = new Class<?>[words.length];
        for (int i = 0; i < words.length; i++) {
            arguments[i] = valueOf(words[i]);
            types[i] = int.class;
        }
        Object answer = FoulRights.class.getMethod(line.group(2), types).invoke(registry, arguments);
        boolean same = String.valueOf(answer).equals(line.group(4));
        CHECKS.due(line.group() + " (it answered " + answer + ")", same, true);
        if (line.group(1) != null) {
            names.add(line.group(1));
            values.add((Integer) answer);
        }
    }

    private int valueOf(String word) {
        int i = names.indexOf(word);
        return i >= 0 ? values.get(i) : Integer.parseInt(word);
    }

    private static void listOfCalls(String readme) {
        TreeSet<String> listed = new TreeSet<>();
        for (Matcher row = ROW.matcher(readme); row.find();) {
            int parameters = row.group(2).isEmpty() ? 0 : row.group(2).split(", ").length;
            listed.add(row.group(1) + "/" + parameters);
        }
        TreeSet<String> face = new TreeSet<>();
        for (Method m : FoulRights.class.getDeclaredMethods()) {
            if (Modifier.isPublic(m.getModifiers())) {
                face.add(m.getName() + "/" + m.getParameterCount());
            }
        }
        CHECKS.due("README.md lists " + listed + ", the face is " + face, listed.equals(face), true);
    }
}
