import java.io.IOException;
import java.nio.file.Files;
import java.nio.file.Path;
import java.util.Arrays;
import java.util.List;
import java.util.Set;
import java.util.TreeSet;
import java.util.regex.Matcher;
import java.util.regex.Pattern;
import java.util.stream.Stream;

/** What README.md says of calls is what the class answers, and it names all tests. */
public final class ReadmeTest {
    private static final Due DUE = new Due();
    private static final Pattern CALL = Pattern.compile("x\\.(\\w+)\\((.*?)\\); +// (-?\\w+)(: .*)?");
    private static final List<String> REFUSALS = List.of("BAD", "NO", "FULL", "NOTHING", "KIND", "INDEX", "SIZE");

    public static void main(String[] args) throws IOException, ReflectiveOperationException {
        String readme = Files.readString(Path.of("README.md"));
        example(readme);
        refusals(readme);
        tests(readme);
        DUE.end();
    }

    private static void example(String readme) throws ReflectiveOperationException {
        Matcher block = Pattern.compile("(?s)```java\n(.*?)```").matcher(readme);
        DUE.holds("there is an example", block.find());
        Run x = new Run(DUE);
        for (String line : block.group(1).split("\n")) {
            Matcher call = CALL.matcher(line);
            if (call.matches()) {
                x.is(number(call.group(3)), call.group(1), numbers(call.group(2)));
            } else {
                boolean saysNothing = line.isEmpty() || line.startsWith("// ") || line.equals("TwoGuilds x = new TwoGuilds();");
                DUE.holds("the example has a line that is no call with its answer: " + line, saysNothing);
            }
        }
        DUE.holds("there is one example", !block.find());
    }

    private static int[] numbers(String list) throws ReflectiveOperationException {
        String[] words = list.isEmpty() ? new String[0] : list.split(", ");
        int[] numbers = new int[words.length];
        for (int i = 0; i < words.length; i++) {
            numbers[i] = number(words[i].replace("TwoGuilds.", ""));
        }
        return numbers;
    }

    /** A number as Java writes it, or a constant of the class by its name. */
    private static int number(String word) throws ReflectiveOperationException {
        return Character.isLetter(word.charAt(0)) ? TwoGuilds.class.getField(word).getInt(null) : Integer.decode(word);
    }

    private static void refusals(String readme) {
        for (String name : REFUSALS) {
            DUE.holds("README.md says what " + name + " is", readme.contains("\n| `" + name + "` | "));
        }
    }

    private static void tests(String readme) throws IOException {
        Set<String> there = new TreeSet<>();
        try (Stream<Path> files = Files.list(Path.of("src/test/java"))) {
            files.map(f -> f.getFileName().toString()).filter(f -> f.endsWith("Test.java"))
                .forEach(f -> there.add(f.replace(".java", "")));
        }
        Set<String> named = new TreeSet<>();
        Arrays.stream(readme.split("\n")).filter(row -> row.matches("\\| \\w+Test \\| .*"))
            .forEach(row -> named.add(row.split(" ")[1]));
        DUE.holds("README.md names the tests " + there + ", but it names " + named, there.equals(named));
    }
}
