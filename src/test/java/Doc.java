import java.io.IOException;
import java.io.UncheckedIOException;
import java.nio.file.Files;
import java.nio.file.Path;
import java.util.ArrayList;
import java.util.Arrays;
import java.util.List;
import java.util.Map;
import java.util.TreeMap;

/**
 * The document in parts, and which of its words tests have named. The parts are "Use" (what is
 * said of an object as a whole), "Promise 1" to "Promise 43" without their signatures, "Terms"
 * (the lines ahead of part 1), and "Terms 1a" to "Terms 5b": a is the lines of a part, b its frame.
 */
final class Doc {
    private static final Path FILE = Path.of("../shared/DOC.md");
    private static final String TERMS = "## Terms";
    private static final String BEHIND_TERMS = "Ahead of the calls";

    private final Map<String, String> texts = new TreeMap<>();
    private final Map<String, boolean[]> named = new TreeMap<>();

    Doc() {
        if (!isThere()) {
            System.out.println("there is no " + FILE + ": its words are not looked up");
            return;
        }
        String all = read();
        add("Use", between(all, "An object is used", "## The public face", true));
        String[] terms = between(all, TERMS, BEHIND_TERMS, false).split("======== \\d ");
        add("Terms", terms[0]);
        for (int i = 1; i < terms.length; i++) {
            String[] halves = terms[i].split("```(text)?");
            add("Terms " + i + "a", halves[0]);
            add("Terms " + i + "b", halves[1]);
        }
        String[] promises = all.split("\n## ");
        for (String promise : promises) {
            if (promise.startsWith("Promise ")) {
                String body = promise.substring(promise.indexOf('\n'));
                add(promise.substring(0, promise.indexOf(':')), body.replaceFirst("(?s)^\\s*`[^`]*`: ", ""));
            }
        }
    }

    /** Answers can be asked for without the document too. */
    static boolean isThere() {
        return Files.isReadable(FILE);
    }

    private static String read() {
        try {
            return Files.readString(FILE);
        } catch (IOException e) {
            throw new UncheckedIOException(e);
        }
    }

    private static String between(String all, String from, String to, boolean withFrom) {
        int start = all.indexOf(from);
        return all.substring(withFrom ? start : start + from.length(), all.indexOf(to, start));
    }

    private void add(String part, String text) {
        String plain = text.replaceAll("\\s+", " ").trim();
        texts.put(part, plain);
        named.put(part, new boolean[plain.length()]);
    }

    /** What is wrong with naming these words, or null: they must stand once in that part. */
    String name(String part, String words) {
        if (!isThere()) {
            return null;
        }
        String text = texts.get(part);
        if (text == null) {
            return "the document has no part '" + part + "'";
        }
        int at = text.indexOf(words);
        if (at < 0 || text.indexOf(words, at + 1) >= 0) {
            return part + (at < 0 ? " does not say '" : " says more than once '") + words + "'";
        }
        Arrays.fill(named.get(part), at, at + words.length(), true);
        return null;
    }

    /** The words of a part that no test has named. */
    List<String> unnamed(String part) {
        List<String> rows = new ArrayList<>();
        if (!isThere()) {
            return rows;
        }
        StringBuilder row = new StringBuilder();
        String text = texts.get(part);
        boolean[] is = named.get(part);
        for (int i = 0; i <= text.length(); i++) {
            if (i < text.length() && !is[i]) {
                row.append(text.charAt(i));
            } else {
                if (row.toString().matches(".*\\w.*")) {
                    rows.add(row.toString());
                }
                row.setLength(0);
            }
        }
        return rows;
    }

    Map<String, String> texts() {
        return texts;
    }
}
