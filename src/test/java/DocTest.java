import java.io.IOException;
import java.nio.file.Files;
import java.nio.file.Path;
import java.util.List;
import java.util.Set;
import java.util.TreeSet;
import java.util.regex.Matcher;
import java.util.regex.Pattern;
import java.util.stream.Stream;

/** That each part of the document is held by some test to its last word. */
public final class DocTest {
    private static final Due DUE = new Due();

    public static void main(String[] args) throws IOException {
        Set<String> held = new TreeSet<>();
        List<Path> tests;
        try (Stream<Path> files = Files.list(Path.of("src/test/java"))) {
            tests = files.filter(f -> f.toString().endsWith("Test.java")).toList();
        }
        for (Path test : tests) {
            Matcher end = Pattern.compile("(?s)DUE\\.end\\(List\\.of\\((.*?)\\)\\);").matcher(Files.readString(test));
            while (end.find()) {
                Matcher part = Pattern.compile("\"([^\"]+)\"").matcher(end.group(1));
                while (part.find()) {
                    DUE.holds(part.group(1) + " is held by one test", held.add(part.group(1)));
                }
            }
        }
        Set<String> all = new Doc().texts().keySet();
        DUE.is("parts of the document", all.size(), Doc.isThere() ? 43 + 10 + 2 : 0);
        for (String part : all) {
            DUE.holds(part + " is held by a test", held.contains(part));
        }
        DUE.end();
    }
}
