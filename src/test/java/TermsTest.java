import java.util.ArrayList;
import java.util.Arrays;
import java.util.List;
import java.util.Set;
import java.util.TreeSet;

/** What the document says of all calls: how many an object has, and how they are refused. */
public final class TermsTest {
    private static final Due DUE = new Due();
    private static final int BAD = TwoGuilds.BAD;
    private static final int NO = TwoGuilds.NO;
    private static final int FULL = TwoGuilds.FULL;
    private static final int NONE = TwoGuilds.NONE;
    private static final int NOTHING = TwoGuilds.NOTHING;
    private static final int KIND = TwoGuilds.KIND;
    private static final int INDEX = TwoGuilds.INDEX;
    private static final int SIZE = TwoGuilds.SIZE;
    private static final Set<Integer> REFUSALS = Set.of(BAD, NO, FULL, NOTHING, KIND, INDEX, SIZE);

    public static void main(String[] args) {
        lastCall();
        wholeNumbers();
        firstOfSeveral();
        refusedChangesNothing();
        thereIsNone();
        setsByBits();
        DUE.end(List.of("Use", "Terms"));
    }

    /** All that has a bound has come to it, and each slot and sheet holds something. */
    private static Run full() {
        Run x = new Run(DUE);
        x.call("deal", 10);
        x.call("loss", 50);
        x.call("days", 2);
        for (int i = 0; i < 10; i++) {
            x.call("worn", i % 5, i % 5);
        }
        for (int i = 0; i < 14; i++) {
            x.text(new String[] {"pair ", "wear ", "fine "}[i % 3] + i);
        }
        x.row(0, 0, 1, 0);
        x.row(1, 1, 7, NONE);
        x.call("sheet", 2, 1, 0);
        x.call("lay", 0, 1, 0);
        x.call("lay", 1, 2, 1);
        x.call("lay", 2, 3, 99);
        x.call("keep");
        x.call("days", 2);
        for (int i = 0; i < 60; i++) {
            x.call("tell", i);
        }
        x.feed("fine 12+" + " ".repeat(88));
        return x;
    }

    private static void lastCall() {
        DUE.by("Use", "An object is used for at most 512 calls after it has been made; what later calls answer is free.");
        Run x = new Run(DUE);
        for (int i = 0; i < 511; i++) {
            x.call("seed", i);
        }
        x.is(510, "seed", 0);
        Run kept = new Run(DUE);
        kept.call("keep");
        for (int i = 0; i < 255; i++) {
            kept.call("deal", 10);
            kept.call("back");
        }
        kept.is(10, "deal", 10);
    }

    private static void wholeNumbers() {
        DUE.by("Terms", "All numbers are whole; / cuts towards 0.");
        Run x = new Run(DUE);
        x.call("glove", 3, 0, 5, 99);
        x.call("glove", 0, 1, 5, 49);
        x.is(1, "fits", 0, 1);
        x.call("set", 0, 4, 9);
        x.is(148, "value", 0, 1);
        x.text("fine (0-7)/2");
        x.is(-3, "fine");
        x.text("fine 7/2");
        x.is(3, "fine");
        x.text("fine (0-1)/2");
        x.is(0, "fine");
        x.text("fine 1/(0-2)");
        x.is(0, "fine");
        x.call("lay", 0, 3, -7);
        x.is(-1, "rest", 0, 2);
    }

    private static void firstOfSeveral() {
        DUE.by("Terms", "A call that is refused answers one of BAD, NO, FULL, or a FINDING, of several the one that stands first with it,");
        Run x = full();
        x.still(BAD, "glove", 6, 0, 0, 0);
        x.still(FULL, "glove", 5, 0, 0, 0);
        x.still(BAD, "as", 10, 9);
        x.still(BAD, "worn", 0, 5);
        x.still(FULL, "worn", 0, 4);
        x.still(BAD, "leaves", 4);
        x.still(NOTHING, "leaves", 3);
        x.still(BAD, "sheet", 4, 0, -1);
        x.still(BAD, "sheet", 0, 2, -1);
        x.still(SIZE, "sheet", 0, 1, -1);
        x.still(BAD, "mark", 4, 9, NONE);
        x.still(NOTHING, "mark", 3, 9, NONE);
        x.still(INDEX, "mark", 0, 9, NONE);
        x.still(KIND, "mark", 0, 1, NONE);
        x.still(INDEX, "mark", 1, 9, 100000);
        x.still(BAD, "mark", 1, 1, 100000);
        x.still(BAD, "copy", 3, 9, 4, 9, -1);
        x.still(NOTHING, "copy", 3, 9, 0, 9, -1);
        x.still(KIND, "copy", 0, 9, 1, 9, -1);
        x.still(INDEX, "copy", 0, 9, 0, 9, -1);
        x.still(BAD, "lay", 5, 2, 3);
        x.still(NOTHING, "lay", 0, 2, 3);
        x.still(BAD, "ask", 4, 6);
        x.still(NOTHING, "ask", 4, 5);
        x.still(KIND, "ask", 2, 0);
        x.still(BAD, "item", 5, 9);
        x.still(NOTHING, "item", 4, 9);
        x.still(KIND, "item", 2, 9);
        x.still(INDEX, "item", 1, 9);
        x.still(KIND, "item", 1, 1);
        x.still(BAD, "rest", 5, 0);
        x.still(NOTHING, "rest", 4, 0);
        x.still(KIND, "rest", 1, 0);
        x.still(NO, "rest", 2, 0);
        x.twin().is(-196, "text");
        Run none = new Run(DUE);
        none.is(BAD, "check", 0);
        none.is(NO, "check", 1);
    }

    /** Every call with many arguments, allowed ones and others: what is refused leaves all as it was. */
    private static void refusedChangesNothing() {
        DUE.by("Terms", "and changes nothing (but the tape and the numbers that wait, where told).");
        int[] odd = {Integer.MIN_VALUE, -1, 0, 1, 3, 5, 10, 14, 25, 101, Integer.MAX_VALUE, NONE};
        Set<String> refused = new TreeSet<>();
        for (Run x : new Run[] {new Run(DUE), full()}) {
            String before = x.state();
            for (String name : Run.names()) {
                for (int[] args : some(odd, Run.parameters(name))) {
                    Run y = x.twin();
                    int got = y.call(name, args);
                    boolean told = name.equals("text") || name.equals("check");
                    if (REFUSALS.contains(got) && !told) {
                        refused.add(name);
                        DUE.holds(name + Arrays.toString(args) + " was refused, and all is as it was", y.state().equals(before));
                    }
                }
            }
        }
        // all but text and check, and those that are never refused: seed, fine, forget, joins, keep
        DUE.is("calls of which some were refused", refused.size(), 35);
        Run x = full();
        Run noTape = x.twin();
        noTape.call("trim", 0);
        x.leavesAs(noTape, -196, "text");
        Run tape = full();
        tape.feed("fine 12");
        tape.leavesAs(noTape, FULL, "text");
    }

    /** All rows of so many values, or, if they are many, some of them. */
    private static List<int[]> some(int[] values, int length) {
        List<int[]> rows = new ArrayList<>();
        long ways = Math.round(Math.pow(values.length, length));
        long step = Math.max(1, ways / 150);
        for (long way = 0; way < ways; way += step) {
            int[] row = new int[length];
            long code = way;
            for (int i = 0; i < length; i++) {
                row[i] = values[(int) (code % values.length)];
                code /= values.length;
            }
            rows.add(row);
        }
        return rows;
    }

    private static void thereIsNone() {
        DUE.by("Terms", "NONE: there is none.");
        Run x = new Run(DUE);
        x.still(NONE, "keepHome", 1);
        x.still(NONE, "sure", 0);
        x.still(NONE, "why", 0);
        x.call("glove", 0, 0, 5, 5);
        x.call("glove", 0, 0, 5, 5);
        x.still(NONE, "value", 0, 1);
        x.still(NONE, "partner", 0);
        x.row(0, 0);
        x.still(NONE, "leaves", 0);
        x.still(NONE, "reads", 0);
        x.call("worn", 0, 0);
        x.call("worn", 0, 1);
        x.still(NONE, "better", 0);
    }

    private static void setsByBits() {
        DUE.by("Terms", "Sets of GLOVES are told by bits.");
        Run x = new Run(DUE);
        for (int i = 0; i < 10; i++) {
            x.call("glove", 5, i % 2, i, 1 << i / 2);
        }
        for (int one = 0; one < 10; one++) {
            x.is(0, "best", 1 << one);
            for (int other = 0; other < 10; other++) {
                if (one % 2 != other % 2) {
                    x.is((1 << one / 2) + (1 << other / 2), "best", 1 << one | 1 << other);
                }
            }
        }
        x.is(62, "best", 1023);
    }
}
