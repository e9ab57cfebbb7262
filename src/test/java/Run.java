import java.lang.reflect.Method;
import java.util.ArrayList;
import java.util.Arrays;
import java.util.HashMap;
import java.util.List;
import java.util.Map;

/**
 * One object and the calls that it has had. As the same calls always give the same object, a
 * second object of the same calls can be asked for everything, so that a test sees whether a
 * call changed something without changing anything itself.
 */
final class Run {
    private static final int MOST_CALLS = 512;
    private static final Map<String, Method> METHODS = new HashMap<>();

    static {
        for (Method m : TwoGuilds.class.getMethods()) {
            if (m.getDeclaringClass() == TwoGuilds.class) {
                METHODS.put(m.getName() + m.getParameterCount(), m);
            }
        }
    }

    private final Due due;
    private final TwoGuilds x = new TwoGuilds();
    private final List<String> names = new ArrayList<>();
    private final List<int[]> arguments = new ArrayList<>();

    Run(Due due) {
        this.due = due;
    }

    /** The names of all calls. */
    static List<String> names() {
        return METHODS.values().stream().map(Method::getName).sorted().toList();
    }

    static int parameters(String name) {
        return METHODS.values().stream().filter(m -> m.getName().equals(name)).findFirst().orElseThrow().getParameterCount();
    }

    Run twin() {
        Run twin = new Run(due);
        for (int i = 0; i < names.size(); i++) {
            twin.call(names.get(i), arguments.get(i));
        }
        return twin;
    }

    int call(String name, int... args) {
        if (names.size() == MOST_CALLS) {
            throw new IllegalStateException("what later calls answer is free");
        }
        names.add(name);
        arguments.add(args.clone());
        Object[] boxed = Arrays.stream(args).boxed().toArray();
        try {
            return (Integer) METHODS.get(name + args.length).invoke(x, boxed);
        } catch (ReflectiveOperationException e) {
            throw new IllegalStateException(written(name, args), e);
        }
    }

    /** The call answers so. */
    void is(int want, String name, int... args) {
        int got = call(name, args);
        due.is(written(name, args), got, want);
    }

    /** The call answers so and changes nothing. */
    void still(int want, String name, int... args) {
        String before = state();
        is(want, name, args);
        same(written(name, args) + " changes nothing", before, state());
    }

    /** The call answers so, and leaves all as it is in another run. */
    void leavesAs(Run other, int want, String name, int... args) {
        is(want, name, args);
        same(written(name, args) + " leaves it so", other.state(), state());
    }

    /** Each of these values of one argument is refused, and so are the least and the greatest int. */
    void refuses(int want, String name, int[] args, int which, int... values) {
        int[] all = Arrays.copyOf(values, values.length + 2);
        all[values.length] = Integer.MIN_VALUE;
        all[values.length + 1] = Integer.MAX_VALUE;
        for (int v : all) {
            int[] wrong = args.clone();
            wrong[which] = v;
            still(want, name, wrong);
        }
    }

    // ---- what many tests do

    /** The tape is this text, whatever it was. */
    void feed(String text) {
        call("trim", 0);
        for (int[] row : Tapes.fed(text)) {
            call("feed", row);
        }
        call("trim", text.length());
    }

    int text(String text) {
        feed(text);
        return call("text");
    }

    void row(int sheet, int sort, int... places) {
        call("sheet", sheet, sort, places.length);
        for (int i = 0; i < places.length; i++) {
            call("mark", sheet, i, places[i]);
        }
    }

    /** These are all places of a sheet; KIND stands for NO NUMBER. */
    void rowIs(int sheet, int... places) {
        Run asked = twin();
        asked.call("lay", 0, 2, sheet);
        for (int i = 0; i < places.length; i++) {
            asked.is(places[i], "item", 0, i);
        }
        asked.is(TwoGuilds.INDEX, "item", 0, places.length);
    }

    void told(int glove, int... all) {
        for (int what = 0; what < all.length; what++) {
            is(all[what], "told", glove, what);
        }
    }

    // ---- all that can be asked

    /** Everything that calls can tell of the object. */
    String state() {
        StringBuilder out = new StringBuilder();
        twin().writeGuild(out);
        twin().writeTable(out);
        twin().writeSlots(out);
        twin().writeSheets(out);
        twin().writeRest(out);
        return out.toString();
    }

    private int write(StringBuilder out, String name, int... args) {
        int got = call(name, args);
        out.append(written(name, args)).append(" = ").append(got).append('\n');
        return got;
    }

    private void writeGuild(StringBuilder out) {
        for (int what = 0; what <= 8; what++) {
            write(out, "count", what);
        }
        for (int glove = 0; glove < call("count", 0); glove++) {
            for (int what = 0; what <= 6; what++) {
                write(out, "told", glove, what);
            }
        }
        for (int text = 0; text < call("count", 5); text++) {
            write(out, "textTold", text, 0);
            write(out, "textTold", text, 1);
        }
        for (int key = 0; key <= 2; key++) {
            write(out, "why", key);
        }
        write(out, "fine");
        write(out, "joins");
        for (int left = 0; left <= 4; left++) {
            write(out, "sure", left);
        }
    }

    private void writeTable(StringBuilder out) {
        int many = call("count", 0);
        for (int one = 0; one < many; one++) {
            write(out, "partner", one);
            for (int other = one + 1; other < many; other++) {
                write(out, "value", one, other);
            }
        }
        write(out, "behind", 3, 2);
    }

    private void writeSlots(StringBuilder out) {
        for (int slot = 0; slot <= 4; slot++) {
            for (int kind = 0; kind <= 5; kind++) {
                write(out, "ask", slot, kind);
            }
            write(out, "rest", slot, 1000003);
            write(out, "rest", slot, Integer.MIN_VALUE);
            int got = 0;
            for (int place = 0; place <= 24 && got != TwoGuilds.INDEX && got != TwoGuilds.NOTHING; place++) {
                got = write(out, "item", slot, place);
            }
            write(out, "lay", slot, 0, 0);
        }
    }

    private void writeSheets(StringBuilder out) {
        for (int sheet = 0; sheet <= 3; sheet++) {
            if (write(out, "lay", 0, 2, sheet) == TwoGuilds.NOTHING) {
                continue;
            }
            int got = 0;
            for (int place = 0; got != TwoGuilds.INDEX; place++) {
                got = write(out, "item", 0, place);
            }
        }
        // the sort of a row without places shows beside one of shorts alone
        Run other = twin();
        other.call("sheet", 0, 0, 0);
        other.write(out, "copy", 3, 0, 0, 0, 0);
        call("sheet", 3, 0, 0);
        for (int sheet = 0; sheet <= 2; sheet++) {
            write(out, "copy", sheet, 0, 3, 0, 0);
        }
    }

    /** Numbers that wait, then the tape and what it is a law for, then the image and its laws. */
    private void writeRest(StringBuilder out) {
        write(out, "check", Math.max(1, call("count", 6) / 2));
        write(out, "text");
        write(out, "fine");
        write(out, "behind", 1, 2);
        if (write(out, "back") != TwoGuilds.NO) {
            writeGuild(out);
            write(out, "behind", 2, 2);
            write(out, "behind", 0, 0);
        }
    }

    private void same(String what, String want, String got) {
        String[] one = want.split("\n");
        String[] other = got.split("\n");
        String where = "in how much can be told";
        for (int i = Math.min(one.length, other.length) - 1; i >= 0; i--) {
            if (!one[i].equals(other[i])) {
                where = "as due is " + one[i] + ", but " + other[i];
            }
        }
        due.holds(want.equals(got) ? what : what + ": it does not, " + where, want.equals(got));
    }

    private static String written(String name, int... args) {
        return name + Arrays.toString(args).replace('[', '(').replace(']', ')');
    }
}
