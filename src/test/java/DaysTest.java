import java.util.List;

/** The frames of parts 2 and 3 of the terms and promises 15 to 19: days, thought ones too, and the fine. */
public final class DaysTest {
    private static final Due DUE = new Due();
    private static final int BAD = TwoGuilds.BAD;
    private static final int NONE = TwoGuilds.NONE;
    private static final int LEAST = Integer.MIN_VALUE;
    private static final int MOST = Integer.MAX_VALUE;

    public static void main(String[] args) {
        drawsOfADay();
        wearOfADay();
        lossOfADay();
        draws();
        drawnGloves();
        onlyThought();
        termsOfBehind();
        termsOfKeep();
        loss();
        days();
        daysUpToTheLast();
        behind();
        keepHome();
        fine();
        DUE.end(List.of("Terms 2b", "Terms 3b", "Promise 15", "Promise 16", "Promise 17", "Promise 18", "Promise 19"));
    }

    /** A left glove and two right ones, which are dearer. */
    private static Run three() {
        Run x = new Run(DUE);
        x.call("glove", 0, 0, 5, 10);
        x.call("glove", 0, 1, 5, 20);
        x.call("glove", 0, 1, 5, 50);
        return x;
    }

    private static Run one(int price) {
        Run x = new Run(DUE);
        x.call("glove", 0, 0, 5, price);
        return x;
    }

    private static Run atDay(int day) {
        Run x = one(17);
        x.call("loss", 0);
        for (int i = 0; i < day / 100; i++) {
            x.call("days", 100);
        }
        if (day % 100 > 0) {
            x.call("days", day % 100);
        }
        return x;
    }

    // ---- Terms 2b

    private static void drawsOfADay() {
        DUE.by("Terms 2b", "A DAY: of each GLOVE that is not LOST, by numbers: a draw; x is its rest by 10;");
        for (int rest = 0; rest < 10; rest++) {
            Run x = one(17);
            x.text("wear x");
            x.call("seed", Lot.seed(Lot.rest(10, rest)));
            x.call("days", 1);
            x.is(rest, "told", 0, 4);
        }
        Run x = three();
        x.text("wear x");
        x.call("loss", 0);
        x.call("set", 1, 5, 1);
        int seed = Lot.seed(Lot.rest(10, 3), Lot.any(), Lot.rest(10, 8), Lot.any());
        x.call("seed", seed);
        x.call("days", 1);
        x.is(3, "told", 0, 4);
        x.is(0, "told", 1, 4);
        x.is(8, "told", 2, 4);
        x.is(Lot.next(Lot.next(Lot.next(Lot.next(seed)))), "count", 8);
        x.call("set", 0, 5, 1);
        x.call("set", 2, 5, 1);
        int z = x.call("count", 8);
        x.call("days", 9);
        x.is(z, "count", 8);
        new Run(DUE).still(1, "count", 8);
    }

    private static void wearOfADay() {
        DUE.by("Terms 2b", "WEAR is what wear gives more, held within 0 .. 20");
        String[] texts = {"wear 0", "wear 1", "wear 0-1", "wear 19", "wear 20", "wear 21", "wear 9999",
            "wear 8192*8192*32", "wear 8192*8192*32-1", "wear p", "wear p+4", "wear p-18"};
        int[] due = {0, 1, 0, 19, 20, 20, 20, 0, 20, 17, 20, 0};
        for (int i = 0; i < texts.length; i++) {
            Run x = one(17);
            x.text(texts[i]);
            x.call("set", 0, 4, 30);
            x.call("days", 1);
            x.is(30 + due[i], "told", 0, 4);
        }
        DUE.by("Terms 2b", "(without a TEXT: x / 4)");
        for (int rest = 0; rest < 10; rest++) {
            Run x = one(17);
            x.call("seed", Lot.seed(Lot.rest(10, rest)));
            x.call("days", 1);
            x.is(rest / 4, "told", 0, 4);
        }
        DUE.by("Terms 2b", "99 at most;");
        int[][] wears = {{78, 98}, {79, 99}, {80, 99}, {98, 99}, {99, 99}};
        for (int[] w : wears) {
            Run x = one(17);
            x.text("wear 20");
            x.call("set", 0, 4, w[0]);
            x.call("days", 1);
            x.is(w[1], "told", 0, 4);
        }
        Run x = one(17);
        x.call("set", 0, 4, 98);
        x.call("seed", Lot.seed(Lot.rest(10, 9)));
        x.call("days", 1);
        x.is(99, "told", 0, 4);
    }

    private static void lossOfADay() {
        DUE.by("Terms 2b", "one more draw: if its rest by 100 is below LOSS, it is LOST.");
        int[][] losses = {{0, 0, 0}, {0, 1, 1}, {31, 32, 1}, {32, 32, 0}, {33, 32, 0}, {99, 99, 0}, {99, 100, 1}, {98, 99, 1}};
        for (int[] l : losses) {
            Run x = one(17);
            x.call("seed", Lot.seed(Lot.rest(10, 9), Lot.rest(100, l[0])));
            x.call("loss", l[1]);
            x.is(l[2], "days", 1);
            x.is(l[2], "told", 0, 5);
            x.is(2, "told", 0, 4);
        }
        Run x = three();
        x.call("seed", Lot.seed(Lot.any(), Lot.rest(100, 5), Lot.any(), Lot.rest(100, 4), Lot.any(), Lot.rest(100, 5)));
        x.is(1, "days", 1);
        x.is(1, "told", 1, 5);
        DUE.by("Terms 2b", "Then THE DAY is 1 more.");
        x.is(1, "count", 2);
        x.call("days", 1);
        x.is(2, "count", 2);
        Run none = new Run(DUE);
        none.call("days", 1);
        none.is(1, "count", 2);
    }

    private static void draws() {
        DUE.by("Terms 2b", "z is told (1 at first).");
        Run x = new Run(DUE);
        x.still(1, "count", 8);
        x.is(1, "seed", 5);
        DUE.by("Terms 2b", "A draw: z becomes z * 1103515245 + 12345 (an int); it gives z >>> 8.");
        int[] seeds = {0, 1, 2, 3, -1, -2, LEAST, MOST, LEAST + 1, 0x40000000, BAD};
        for (int seed : seeds) {
            Run y = one(17);
            y.call("seed", seed);
            y.text("wear x");
            y.call("loss", 0);
            y.call("days", 1);
            y.is(seed * 1103515245 * 1103515245 + 12345 * 1103515245 + 12345, "count", 8);
            y.is((seed * 1103515245 + 12345 >>> 8) % 10, "told", 0, 4);
        }
        // z of a draw below 0: >> would give a rest below 0, and no sign another one
        Run below = one(17);
        int seed = Lot.seed(draw -> draw >= 1 << 23 && draw % 10 == 7);
        below.call("seed", seed);
        below.text("wear x");
        below.call("days", 1);
        below.is(7, "told", 0, 4);
    }

    private static void drawnGloves() {
        DUE.by("Terms 2b", "GLOVES that are drawn: KIND the rest of a draw by 6, SIDE that of one more by 2, "
            + "SIZE that of one more by 10, PRICE that of one more by 100.");
        int[][] gloves = {{0, 0, 0, 0}, {5, 1, 9, 99}, {3, 0, 9, 0}, {1, 1, 0, 99}, {4, 1, 5, 50}, {2, 0, 4, 49}};
        for (int[] g : gloves) {
            Run x = new Run(DUE);
            int seed = Lot.seed(Lot.rest(6, g[0]), Lot.rest(2, g[1]), Lot.rest(10, g[2]), Lot.rest(100, g[3]));
            x.call("seed", seed);
            x.is(1, "deal", 1);
            for (int what = 0; what < 4; what++) {
                x.is(g[what], "told", 0, what);
            }
            x.is(0, "told", 0, 4);
            x.is(0, "told", 0, 5);
            x.is(Lot.next(Lot.next(Lot.next(Lot.next(seed)))), "count", 8);
        }
    }

    // ---- Terms 3b

    private static void onlyThought() {
        DUE.by("Terms 3b", "(Only thought, without the bound of THE DAY: nothing changes, z neither:)");
        Run x = three();
        x.text("pair a+b+w");
        x.text("fine d*100+l");
        x.call("keep");
        x.call("worn", 1, 2);
        for (int what = 0; what < 3; what++) {
            x.still(x.twin().call("behind", 100, what), "behind", 100, what);
        }
        x.still(x.twin().call("keepHome", 30), "keepHome", 30);
        Run last = atDay(9999);
        last.call("set", 0, 4, 0);
        last.call("loss", 100);
        last.text("wear 7");
        last.still(0, "behind", 0, 1);
        last.still(1, "behind", 1, 1);
        last.call("loss", 0);
        last.still(14, "behind", 2, 2);
        last.still(99, "behind", 100, 2);
        last.is(1, "glove", 0, 1, 5, 20);
        last.text("pair w");
        last.still(14, "behind", 1, 0);
        last.still(0, "keepHome", 1);
        last.text("pair 100-w");
        last.text("wear p");
        last.still(1, "keepHome", 1);
        last.is(9999, "count", 2);
    }

    private static void termsOfBehind() {
        DUE.by("Terms 3b", "BEHIND n DAYS: VALUE of THE BEST PAIRING;");
        Run x = three();
        x.call("loss", 0);
        x.text("wear 10");
        x.is(60, "behind", 0, 0);
        x.is(58, "behind", 1, 0);
        x.is(56, "behind", 2, 0);
        x.is(42, "behind", 9, 0);
        x.is(41, "behind", 10, 0);
        x.is(41, "behind", 100, 0);
        x.call("loss", 100);
        x.is(0, "behind", 1, 0);
        DUE.by("Terms 3b", "how many are LOST;");
        x.is(0, "behind", 0, 1);
        x.is(3, "behind", 1, 1);
        x.call("set", 1, 5, 1);
        x.is(1, "behind", 0, 1);
        x.is(3, "behind", 100, 1);
        DUE.by("Terms 3b", "WEAR of all that are not LOST, together.");
        x.call("set", 0, 4, 3);
        x.call("set", 1, 4, 50);
        x.call("set", 2, 4, 4);
        x.is(7, "behind", 0, 2);
        x.is(0, "behind", 1, 2);
        x.call("loss", 0);
        x.is(27, "behind", 1, 2);
        x.is(198, "behind", 100, 2);
    }

    private static void termsOfKeep() {
        DUE.by("Terms 3b", "KEEP: the GLOVE without whose WEAR and loss (as if it were left at home: no draws for it) "
            + "THE BEST PAIRING behind n DAYS has the greatest VALUE;");
        // draws by 100: 54 32, 56 3: who draws second is LOST, and with 2 at home that is 1
        three().is(2, "keepHome", 1);
        Run x = three();
        x.call("loss", 0);
        x.text("wear 20");
        x.text("pair 200-w");
        x.call("set", 1, 4, 60);
        x.call("set", 2, 4, 61);
        x.is(0, "keepHome", 1);
        // by 2 days 1 and 2 would both come to 99, so that the one at home counts
        x.call("set", 0, 4, 99);
        x.is(1, "keepHome", 2);
        x.call("set", 1, 4, 62);
        x.is(2, "keepHome", 2);
        Run all = three();
        all.call("loss", 100);
        all.text("pair a+b");
        all.is(0, "keepHome", 1);
        DUE.by("Terms 3b", "of several the least.");
        Run alike = three();
        alike.call("loss", 100);
        alike.is(0, "keepHome", 30);
        alike.call("loss", 0);
        alike.text("wear 0");
        alike.is(0, "keepHome", 1);
        alike.call("set", 0, 5, 1);
        alike.is(0, "keepHome", 1);
        Run last = three();
        last.text("wear 20");
        last.text("pair 200-w");
        last.call("loss", 0);
        last.call("set", 0, 4, 99);
        last.call("set", 1, 4, 1);
        last.call("set", 2, 4, 1);
        last.is(1, "keepHome", 1);
    }

    // ---- Promise 15 to 19

    private static void loss() {
        DUE.by("Promise 15", "LOSS becomes v: what it was.");
        Run x = three();
        x.is(5, "loss", 0);
        x.is(0, "count", 3);
        x.is(0, "loss", 100);
        x.is(100, "count", 3);
        x.is(100, "loss", 1);
        x.is(1, "loss", 99);
        x.still(99, "loss", 99);
        DUE.by("Promise 15", "BAD.");
        x.refuses(BAD, "loss", new int[] {0}, 0, -1, 101);
    }

    private static void days() {
        DUE.by("Promise 16", "n (1 .. 100) DAYS");
        Run x = three();
        // draws by 100: 54 32, 56 3 (LOST), 87 36; then 50 46, 68 29
        x.is(1, "days", 1);
        x.is(-1778682749, "count", 8);
        x.is(0, "days", 1);
        x.is(1, "told", 0, 4);
        x.is(1, "told", 1, 4);
        x.is(3, "told", 2, 4);
        x.is(2, "count", 2);
        Run hundred = three();
        hundred.text("wear x=0");
        hundred.call("days", 100);
        hundred.is(100, "count", 2);
        Run byOnes = three();
        byOnes.text("wear x=0");
        for (int i = 0; i < 99; i++) {
            byOnes.call("days", 1);
        }
        byOnes.leavesAs(hundred, 0, "days", 1);
        DUE.by("Promise 16", "how many were LOST in them.");
        Run y = three();
        y.call("set", 1, 5, 1);
        y.call("loss", 100);
        y.is(2, "days", 1);
        y.is(0, "days", 1);
        y.is(3, "count", 1);
        Run none = three();
        none.call("loss", 0);
        none.is(0, "days", 100);
        new Run(DUE).is(0, "days", 100);
        DUE.by("Promise 16", "BAD.");
        x.refuses(BAD, "days", new int[] {0}, 0, -1, 0, 101);
    }

    private static void daysUpToTheLast() {
        DUE.by("Promise 16", "(no more than up to 9999)");
        Run x = atDay(9990);
        x.is(9990, "count", 2);
        Run nine = new Run(DUE);
        nine.call("seed", x.call("count", 8));
        nine.call("glove", 0, 0, 5, 17);
        nine.call("loss", 0);
        nine.call("days", 9);
        x.is(0, "days", 100);
        x.is(9999, "count", 2);
        x.is(nine.call("count", 8), "count", 8);
        x.call("set", 0, 4, 0);
        x.call("loss", 100);
        x.still(0, "days", 1);
        x.still(0, "days", 100);
        x.still(BAD, "days", 0);
        x.still(BAD, "days", 101);
        Run just = atDay(9899);
        just.call("days", 100);
        just.is(9999, "count", 2);
        Run nearly = atDay(9898);
        nearly.call("days", 100);
        nearly.is(9998, "count", 2);
        nearly.call("loss", 100);
        nearly.is(1, "days", 2);
        nearly.is(9999, "count", 2);
    }

    private static void behind() {
        DUE.by("Promise 17", "BEHIND n (0 .. 100) DAYS: what 0 VALUE of THE BEST PAIRING, 1 how many are LOST, 2 WEAR of all others, together.");
        Run x = three();
        x.still(60, "behind", 0, 0);
        x.still(60, "behind", 1, 0);
        x.still(0, "behind", 0, 1);
        x.still(1, "behind", 1, 1);
        x.still(0, "behind", 0, 2);
        x.still(2, "behind", 1, 2);
        x.still(4, "behind", 2, 2);
        Run then = x.twin();
        then.call("days", 100);
        x.still(then.call("best", 7), "behind", 100, 0);
        x.still(then.call("count", 1), "behind", 100, 1);
        Run slow = one(17);
        slow.call("loss", 0);
        slow.text("wear x=0");
        // by z = 1 the hundredth day is one of those on which it wears
        slow.still(7, "behind", 99, 2);
        slow.still(8, "behind", 100, 2);
        for (int what = 0; what < 3; what++) {
            new Run(DUE).still(0, "behind", 9, what);
        }
        DUE.by("Promise 17", "BAD.");
        x.refuses(BAD, "behind", new int[] {0, 0}, 0, -1, 101);
        x.refuses(BAD, "behind", new int[] {0, 0}, 1, -1, 3);
    }

    private static void keepHome() {
        DUE.by("Promise 18", "KEEP for n (1 .. 30).");
        Run x = three();
        x.still(2, "keepHome", 1);
        x.still(x.twin().call("keepHome", 30), "keepHome", 30);
        // 0 wears by 1 a day, and only behind 30 of them the two are worth something
        Run far = three();
        far.call("loss", 0);
        far.text("wear p=10");
        far.text("pair w>29");
        far.still(0, "keepHome", 29);
        far.still(1, "keepHome", 30);
        DUE.by("Promise 18", "BAD;");
        x.refuses(BAD, "keepHome", new int[] {0}, 0, -1, 0, 31);
        new Run(DUE).refuses(BAD, "keepHome", new int[] {0}, 0, -1, 0, 31);
        DUE.by("Promise 18", "NONE: there are no GLOVES.");
        new Run(DUE).still(NONE, "keepHome", 1);
        new Run(DUE).still(NONE, "keepHome", 30);
        one(5).still(0, "keepHome", 30);
    }

    private static void fine() {
        DUE.by("Promise 19", "What fine gives.");
        Run x = three();
        x.still(0, "fine");
        x.call("set", 1, 5, 1);
        x.call("set", 2, 5, 1);
        x.still(2, "fine");
        x.call("loss", 0);
        x.call("days", 7);
        x.text("fine d*100+l");
        x.still(702, "fine");
        x.text("fine 0-5000");
        x.still(-5000, "fine");
        x.text("fine 9999*9999");
        x.still(99980001, "fine");
        x.text("fine 8192*8192*32");
        x.still(LEAST, "fine");
    }
}
