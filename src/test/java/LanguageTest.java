import java.io.IOException;
import java.nio.file.Files;
import java.nio.file.Path;
import java.util.regex.Matcher;
import java.util.regex.Pattern;

/** The rules of LANGUAGE.md that can be seen from the text of the class alone. */
public final class LanguageTest {
    private static final Due DUE = new Due();

    public static void main(String[] args) throws IOException {
        String source = Files.readString(Path.of("src/main/java/TwoGuilds.java"));
        DUE.holds("characters 1 to 127 alone", source.chars().allMatch(c -> c >= 1 && c <= 127));
        String code = withoutComments(source);
        for (String word : new String[] {"import", "package", "throw", "throws", "try", "catch", "finally", "synchronized",
            "assert", "var", "yield", "protected", "hashCode", "toString", "Object", "native", "volatile", "transient",
            "boolean\\[", "new String", "NaN", "Random", "Thread"}) {
            none(code, "6: " + word, "\\b" + word + (word.endsWith("[") ? "" : "\\b"));
        }
        none(code, "2: lambda or arrow", "->");
        none(code, "2: method reference", "::");
        none(code, "5: static block", "static\\s*\\{");
        none(code, "5: a static field that is not final", "static (?!final )[^(){}=;]*[=;]");
        none(code, "10: texts joined by +", "\"\\s*\\+|\\+\\s*\"");
        none(code, "3: arrays of three dimensions", "\\[\\]\\[\\]\\[\\]");
        none(code, "9: loop without a bound", "while \\(true\\)|for \\(;;\\)");
        DUE.holds("11: classes", count(code, "\\bclass \\w+") <= 12);
        parameters(code);
        methods(code);
        DUE.end();
    }

    private static String withoutComments(String source) {
        return source.replaceAll("(?s)/\\*.*?\\*/", "").replaceAll("//[^\n]*", "");
    }

    private static void none(String code, String rule, String pattern) {
        Matcher m = Pattern.compile(pattern).matcher(code);
        DUE.holds("rule " + rule, !m.find());
    }

    private static int count(String code, String pattern) {
        return (int) Pattern.compile(pattern).matcher(code).results().count();
    }

    private static void parameters(String code) {
        Matcher m = Pattern.compile("(\\w+)\\(([^()]*)\\) \\{").matcher(code);
        while (m.find()) {
            DUE.holds("11: parameters of " + m.group(1), m.group(2).split(",").length <= 7);
        }
    }

    /** Methods stay within some sixty lines: from a head to the brace of the same indent. */
    private static void methods(String code) {
        String[] lines = code.split("\n");
        for (int i = 0; i < lines.length; i++) {
            if (lines[i].matches("(    |        )[\\w\\[\\] ]+\\(.*\\) \\{")) {
                String close = lines[i].substring(0, lines[i].indexOf(lines[i].trim())) + "}";
                int end = i;
                while (!lines[end].equals(close)) {
                    end++;
                }
                DUE.holds("11: lines of " + lines[i].trim(), end - i < 60);
            }
        }
    }
}
