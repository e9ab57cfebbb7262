import java.lang.reflect.Method;
import java.util.ArrayList;
import java.util.HashMap;
import java.util.List;
import java.util.Map;
import java.util.Random;

/** Long runs by lot (always the same ones), each answer held against that of the model. */
public final class RandomRunsTest {
    private static final int RUNS = 1500;
    private static final int CALLS = 512;

    /** Each call's arguments: least and most of each that the document allows, or nearly so. */
    private static final Object[][] FACE = {
        {"glove", 0, 5, 0, 1, 0, 9, 0, 99}, {"told", 0, 9, 0, 6}, {"as", 0, 9, 0, 5}, {"turns", 0, 9, 0, 5},
        {"set", 0, 9, 1, 5, 0, 9}, {"fits", 0, 9, 0, 9}, {"value", 0, 9, 0, 9}, {"deal", 1, 10},
        {"seed", -9, 9}, {"best", 0, 1023}, {"partner", 0, 9}, {"adds", 0, 9}, {"leaves", 0, 3},
        {"loss", 0, 20}, {"days", 1, 9}, {"behind", 0, 9, 0, 2}, {"keepHome", 1, 9}, {"fine"},
        {"worn", 0, 4, 0, 4}, {"forget"}, {"joins"}, {"sure", 0, 4}, {"better", 0, 1},
        {"trim", 0, 96}, {"text"}, {"textTold", 0, 13, 0, 1}, {"why", 0, 2},
        {"sheet", 0, 3, -1, 1, 0, 24}, {"mark", 0, 3, 0, 11, 0, 11}, {"pour", 0, 3}, {"reads", 0, 3},
        {"copy", 0, 3, 0, 9, 0, 3, 0, 9, 0, 9}, {"lay", 0, 4, 0, 3, 0, 4}, {"ask", 0, 4, 0, 5},
        {"item", 0, 4, 0, 24}, {"rest", 0, 4, -9, 9}, {"tell", 0, 99}, {"check", 1, 30}, {"keep"}, {"back"},
        {"count", 0, 8}, {"feed", -9, 9, -9, 9, -9, 9},
    };
    private static final int[] EDGES = {Integer.MIN_VALUE, Integer.MAX_VALUE, -1, Model.NONE, 32768, -32769, 99999, 100000, -100000, 1 << 10};

    private final Map<String, Method[]> methods = new HashMap<>();
    private final StringBuilder trace = new StringBuilder();
    private final Map<String, Integer> answers = new HashMap<>();
    private final List<Object[]> inUse = new ArrayList<>();
    private Random lot;
    private TwoGuilds x;
    private Model model;
    private int left;
    private boolean wrong = false;

    private RandomRunsTest() throws ReflectiveOperationException {
        for (Object[] row : FACE) {
            String name = (String) row[0];
            Class<?>[] ints = new Class<?>[(row.length - 1) / 2];
            java.util.Arrays.fill(ints, int.class);
            methods.put(name, new Method[] {TwoGuilds.class.getMethod(name, ints), Model.class.getDeclaredMethod(name, ints)});
        }
    }

    private int call(String name, Object... args) throws ReflectiveOperationException {
        if (left == 0 || wrong) {
            return 0;
        }
        left--;
        Method[] both = methods.get(name);
        int got = (Integer) both[0].invoke(x, args);
        int want = (Integer) both[1].invoke(model, args);
        trace.append(name).append(java.util.Arrays.toString(args)).append(" = ").append(want).append('\n');
        answers.merge(name + (want < -1000000000 && want > -1000000020 ? want : ""), 1, Integer::sum);
        if (got != want) {
            wrong = true;
            System.out.println(trace + "but the answer was " + got);
        }
        return want;
    }

    private int between(int least, int most) {
        return least + lot.nextInt(most - least + 1);
    }

    private void randomCall() throws ReflectiveOperationException {
        Object[] row = inUse.get(lot.nextInt(inUse.size()));
        Object[] args = new Object[(row.length - 1) / 2];
        for (int i = 0; i < args.length; i++) {
            int least = (Integer) row[1 + 2 * i];
            int most = (Integer) row[2 + 2 * i];
            args[i] = between(least, most);
            int odd = lot.nextInt(60);
            if (odd == 0) {
                args[i] = EDGES[lot.nextInt(EDGES.length)];
            } else if (odd == 1) {
                args[i] = lot.nextBoolean() ? least - 1 : most + 1;
            } else if (odd == 2) {
                args[i] = lot.nextInt();
            } else if (odd < 6) {
                args[i] = between(-100, 100);
            }
        }
        if (row[0].equals("best") && lot.nextInt(4) > 0) {
            args[0] = lot.nextInt(1 << model.now.gloves.size());
        }
        call((String) row[0], args);
    }

    private void randomText() throws ReflectiveOperationException {
        int key = lot.nextInt(3);
        String e = expression(Model.KEY_NAMES[key], lot.nextInt(5));
        StringBuilder text = new StringBuilder(Model.KEY_WORDS[key]).append(blanks(1)).append(e);
        if (lot.nextInt(3) == 0) {
            for (int i = between(1, 2); i > 0 && text.length() > 0; i--) {
                spoil(text);
            }
        }
        if (text.length() > 96) {
            text.setLength(96);
        }
        int whole = (text.length() + 11) / 12 * 12;
        int length = text.length();
        while (text.length() < whole) {
            text.append((char) lot.nextInt(256));
        }
        call("trim", 0);
        for (int i = 0; i < whole; i += 12) {
            call("feed", Tapes.number(text, i), Tapes.number(text, i + 4), Tapes.number(text, i + 8));
        }
        call("trim", length);
        call("text");
    }

    private void spoil(StringBuilder text) {
        String some = "()!&|<=>+-*/ 0123456789abwxpdlpairwearfineAZ.%";
        char c = lot.nextInt(9) == 0 ? (char) lot.nextInt(256) : some.charAt(lot.nextInt(some.length()));
        int at = lot.nextInt(text.length());
        switch (lot.nextInt(4)) {
            case 0 -> text.insert(at, c);
            case 1 -> text.setCharAt(at, c);
            case 2 -> text.deleteCharAt(at);
            default -> text.setLength(at);
        }
    }

    private String blanks(int least) {
        return " ".repeat(lot.nextInt(3) == 0 ? between(least, 2) : least);
    }

    private String expression(String names, int depth) {
        StringBuilder e = new StringBuilder();
        int pieces = between(1, 3);
        for (int i = 0; i < pieces; i++) {
            if (i > 0) {
                e.append(blanks(0)).append("|&<=>+-*/+-*/".charAt(lot.nextInt(13))).append(blanks(0));
            }
            e.append("!".repeat(lot.nextInt(4) == 0 ? between(1, lot.nextInt(6) == 0 ? 9 : 2) : 0));
            if (depth > 0 && lot.nextInt(2) == 0) {
                int deep = lot.nextInt(12) == 0 ? between(2, 9) : 1;
                e.append("(".repeat(deep)).append(expression(names, depth - 1)).append(")".repeat(deep));
            } else if (lot.nextBoolean()) {
                e.append(lot.nextInt(4) == 0 ? between(0, 12000) : between(0, 30));
            } else {
                e.append(names.charAt(lot.nextInt(names.length())));
            }
        }
        return e.toString();
    }

    /** Tells what is due, at times with one number wrong, one missing or one too many. */
    private void randomCheck() throws ReflectiveOperationException {
        if (model.image == null) {
            return;
        }
        int n = between(1, lot.nextBoolean() ? 5 : 30);
        Model.World w = model.image.twin();
        List<Integer> due = new ArrayList<>();
        for (int i = 0; i < n && w.day < 9999; i++) {
            w.day(null);
            due.add(w.lost());
            due.add(w.wear());
        }
        int spoilt = lot.nextInt(4);
        if (spoilt == 0 && !due.isEmpty()) {
            int at = lot.nextInt(due.size());
            due.set(at, due.get(at) + 1);
        } else if (spoilt == 1 && !due.isEmpty()) {
            due.remove(due.size() - 1);
        } else if (spoilt == 2) {
            due.add(0);
        }
        if (lot.nextInt(4) > 0) {
            call("check", n);
        }
        for (int told : due) {
            call("tell", told);
        }
        call("check", n);
    }

    private void seatPairs() throws ReflectiveOperationException {
        int sheet = lot.nextInt(4);
        int n = model.now.gloves.size();
        call("sheet", sheet, lot.nextInt(2), between(Math.max(0, n - 1), n + 1));
        int[] partners = model.now.bestPairing(lot.nextInt(1 << n));
        for (int i = 0; i < n; i++) {
            call("mark", sheet, i, lot.nextInt(8) == 0 ? Model.NONE : partners[i] < 0 ? 99 : partners[i]);
        }
        call("leaves", sheet);
    }

    private void copyWear() throws ReflectiveOperationException {
        int sheet = lot.nextInt(4);
        int n = Math.max(0, model.now.gloves.size() - lot.nextInt(2));
        call("sheet", sheet, lot.nextInt(2), n);
        for (int i = 0; i < n; i++) {
            call("mark", sheet, i, lot.nextInt(8) == 0 ? Model.NONE : model.told(i, 4));
        }
        call("reads", sheet);
    }

    private void run(int seed) throws ReflectiveOperationException {
        lot = new Random(seed);
        x = new TwoGuilds();
        model = new Model();
        left = CALLS;
        trace.setLength(0);
        trace.append("run ").append(seed).append('\n');
        boolean old = seed % 25 == 0;
        for (int i = 0; old && i < 100; i++) {
            call("days", 100);
        }
        // each run leaves other calls out, so that what they undo or use up can grow
        inUse.clear();
        for (Object[] row : FACE) {
            if (lot.nextInt(5) > 1) {
                inUse.add(row);
            }
        }
        inUse.add(FACE[0]);
        boolean alike = lot.nextInt(3) > 0;
        int lots = between(12, 80);
        while (left > 0 && !wrong) {
            int what = lot.nextInt(lots);
            if (what == 0) {
                randomText();
            } else if (what == 1) {
                randomCheck();
            } else if (what == 2) {
                seatPairs();
            } else if (what == 3) {
                copyWear();
            } else if (what < 7 && alike) {
                // gloves that are nearly alike, or there would be few pairs
                call("glove", lot.nextInt(6), lot.nextInt(2), between(4, 5), between(0, 3) * 20);
            } else if (what == 7) {
                call("set", lot.nextInt(10), 5, 0);
            } else {
                randomCall();
            }
        }
    }

    public static void main(String[] args) throws ReflectiveOperationException {
        RandomRunsTest test = new RandomRunsTest();
        for (int seed = 0; seed < RUNS && !test.wrong; seed++) {
            test.run(seed);
        }
        if (args.length > 0) {
            new java.util.TreeMap<>(test.answers).forEach((k, v) -> System.out.println(k + " " + v));
        }
        System.out.println(test.wrong ? "an answer is not as due" : "all answers are as due");
        if (test.wrong) {
            System.exit(1);
        }
    }
}
