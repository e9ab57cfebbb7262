import java.io.IOException;
import java.lang.reflect.Field;
import java.lang.reflect.Modifier;
import java.nio.file.Files;
import java.nio.file.Path;
import java.util.ArrayList;
import java.util.List;
import java.util.Set;
import java.util.regex.Matcher;
import java.util.regex.Pattern;

/** The rules of LANGUAGE.md that can be seen from the text of the class and from what it was compiled to. */
public final class LanguageTest {
    private static final Due DUE = new Due();
    private static final Set<String> LIBRARY = Set.of("java/lang/Object.<init>", "java/lang/Math.max", "java/lang/Math.min",
        "java/lang/System.arraycopy", "java/lang/String.length", "java/lang/String.charAt", "java/lang/String.indexOf");

    public static void main(String[] args) throws IOException {
        String source = Files.readString(Path.of("src/main/java/TwoGuilds.java"));
        DUE.holds("characters 1 to 127 alone", source.chars().allMatch(c -> c >= 1 && c <= 127));
        String code = withoutComments(source);
        for (String word : new String[] {"import", "package", "throw", "throws", "try", "catch", "finally", "synchronized",
            "assert", "var", "yield", "protected", "hashCode", "toString", "Object", "native", "volatile", "transient",
            "boolean\\[", "new String", "NaN", "Random", "Thread"}) {
            none(code, "6: " + word, "\\b" + word + (word.endsWith("[") ? "" : "\\b"));
        }
        none(code, "2: lambda or arrow", "->");
        none(code, "2: method reference", "::");
        none(code, "5: static block", "static\\s*\\{");
        none(code, "5: a static field that is not final", "static (?!final )[^(){}=;]*[=;]");
        none(code, "10: texts joined by +", "\"\\s*\\+|\\+\\s*\"");
        none(code, "3: arrays of three dimensions", "\\[\\]\\[\\]\\[\\]");
        none(code, "9: loop without a bound", "while \\(true\\)|for \\(;;\\)");
        DUE.holds("11: classes", count(code, "\\bclass \\w+") <= 12);
        parameters(code);
        methods(code);
        for (Class<?> c : classes()) {
            library(c);
            fields(c);
        }
        DUE.end();
    }

    private static List<Class<?>> classes() {
        List<Class<?>> all = new ArrayList<>(List.of(TwoGuilds.class.getDeclaredClasses()));
        all.add(TwoGuilds.class);
        return all;
    }

    private static String withoutComments(String source) {
        return source.replaceAll("(?s)/\\*.*?\\*/", "").replaceAll("//[^\n]*", "");
    }

    private static void none(String code, String rule, String pattern) {
        Matcher m = Pattern.compile(pattern).matcher(code);
        DUE.holds("rule " + rule, !m.find());
    }

    private static int count(String code, String pattern) {
        return (int) Pattern.compile(pattern).matcher(code).results().count();
    }

    /** Rule 4 allows more than is used; a name that comes new must be looked up there first. */
    private static void library(Class<?> c) throws IOException {
        for (String used : Refs.methods(c)) {
            DUE.holds("4: " + used, used.startsWith("TwoGuilds") || LIBRARY.contains(used));
        }
    }

    /** Rules 5 and 11: no static state but constants, and few fields. */
    private static void fields(Class<?> c) {
        int fields = 0;
        for (Field f : c.getDeclaredFields()) {
            if (!Modifier.isStatic(f.getModifiers())) {
                fields++;
            } else {
                DUE.holds("5: " + f + " is a constant", Modifier.isFinal(f.getModifiers())
                    && Set.of("int", "long", "boolean", "char", "String", "int[]").contains(f.getType().getSimpleName()));
            }
        }
        DUE.holds("11: " + c + " has few fields", fields <= 20);
        DUE.holds("2: " + c + " is a class by itself", c.getEnclosingMethod() == null && !c.isAnonymousClass());
    }

    private static void parameters(String code) {
        Matcher m = Pattern.compile("(\\w+)\\(([^()]*)\\) \\{").matcher(code);
        while (m.find()) {
            DUE.holds("11: parameters of " + m.group(1), m.group(2).split(",").length <= 7);
        }
    }

    /** Methods stay within some sixty lines: from a head to the brace of the same indent. */
    private static void methods(String code) {
        String[] lines = code.split("\n");
        for (int i = 0; i < lines.length; i++) {
            if (lines[i].matches("(    |        )[\\w\\[\\] ]+\\(.*\\) \\{")) {
                String close = lines[i].substring(0, lines[i].indexOf(lines[i].trim())) + "}";
                int end = i;
                while (!lines[end].equals(close)) {
                    end++;
                }
                DUE.holds("11: lines of " + lines[i].trim(), end - i < 60);
            }
        }
    }
}
