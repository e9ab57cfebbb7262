import java.util.List;

/** Part 1 of the terms and promises 1 to 10: a new object, gloves and what they are. */
public final class GlovesTest {
    private static final Due DUE = new Due();
    private static final int BAD = TwoGuilds.BAD;
    private static final int NONE = TwoGuilds.NONE;
    private static final int LEAST = Integer.MIN_VALUE;
    private static final int MOST = Integer.MAX_VALUE;

    public static void main(String[] args) {
        termsOfGloves();
        termsOfKinds();
        termsOfLossAndDay();
        fitsAlike();
        fitsLoosely();
        pairs();
        valueWithoutText();
        valueByText();
        worth();
        newObject();
        glove();
        told();
        as();
        turns();
        set();
        fits();
        value();
        deal();
        seed();
        DUE.end(List.of("Terms 1a", "Terms 1b", "Promise 1", "Promise 2", "Promise 3", "Promise 4", "Promise 5",
            "Promise 6", "Promise 7", "Promise 8", "Promise 9", "Promise 10"));
    }

    private static Run run() {
        return new Run(DUE);
    }

    private static Run ten() {
        Run x = run();
        for (int i = 0; i < 10; i++) {
            x.call("glove", i % 6, i % 2, 5, 10 * i);
        }
        return x;
    }

    /** Glove 0 of a kind and glove 1, of unlike sides. */
    private static Run two(int kind, int size, int price, int otherKind, int otherSize, int otherPrice) {
        Run x = run();
        x.call("glove", kind, 0, size, price);
        x.call("glove", otherKind, 1, otherSize, otherPrice);
        return x;
    }

    // ---- Terms 1a

    private static void termsOfGloves() {
        DUE.by("Terms 1a", "GLOVES, 10 at most, numbered from 0");
        Run x = run();
        for (int i = 0; i < 10; i++) {
            x.is(i, "glove", 0, 0, 0, 0);
        }
        x.still(TwoGuilds.FULL, "glove", 0, 0, 0, 0);
        x.still(0, "deal", 10);
        x.is(0, "told", 9, 0);
        x.still(BAD, "told", 10, 0);
        x.still(BAD, "told", -1, 0);
        Run mixed = run();
        mixed.call("deal", 9);
        mixed.is(9, "glove", 0, 0, 0, 0);
        mixed.still(TwoGuilds.FULL, "glove", 0, 0, 0, 0);
        edgesOf("SIDE 0 left, 1 right", 1, 1, 1);
        edgesOf("SIZE 0 .. 9", 2, 2, 9);
        edgesOf("PRICE 0 .. 99", 3, 3, 99);
        DUE.by("Terms 1a", "WEAR 0 .. 99 (0 at first)");
        Run worn = ten();
        worn.is(0, "told", 9, 4);
        worn.is(0, "set", 9, 4, 99);
        worn.refuses(BAD, "set", new int[] {9, 4, 0}, 2, 100, -1);
        worn.is(99, "set", 9, 4, 0);
        worn.is(0, "told", 9, 4);
        DUE.by("Terms 1a", "LOST or not (not)");
        Run lost = ten();
        for (int i = 0; i < 10; i++) {
            lost.is(0, "told", i, 5);
        }
        lost.is(0, "count", 1);
        lost.is(0, "set", 9, 5, 1);
        lost.is(1, "count", 1);
    }

    /** What glove takes as an argument, and set as a trait, from 0 to the most. */
    private static void edgesOf(String words, int argument, int what, int most) {
        DUE.by("Terms 1a", words);
        int[] least = {0, 0, 0, 0};
        int[] greatest = {0, 0, 0, 0};
        greatest[argument] = most;
        Run x = run();
        x.is(0, "glove", least);
        x.is(1, "glove", greatest);
        x.is(0, "told", 0, what);
        x.is(most, "told", 1, what);
        x.refuses(BAD, "glove", least, argument, -1, most + 1);
        x.is(0, "set", 0, what, most);
        x.is(most, "set", 1, what, 0);
        x.refuses(BAD, "set", new int[] {0, what, 0}, 2, -1, most + 1);
    }

    private static void termsOfKinds() {
        DUE.by("Terms 1a", "and of KINDS: 0 GLOVE");
        Run x = run();
        for (int kind = 0; kind < 6; kind++) {
            x.is(kind, "glove", kind, 0, 5, 10 + kind);
            x.is(kind, "told", kind, 0);
        }
        x.refuses(BAD, "glove", new int[] {0, 0, 5, 10}, 0, -1, 6);
        isOf(x, 0, "0");
        DUE.by("Terms 1a", "1 LINED, 2 LOOSE, 5 MITTEN, under GLOVE");
        isOf(x, 1, "01");
        isOf(x, 2, "02");
        isOf(x, 5, "05");
        DUE.by("Terms 1a", "3 FURRED, under LINED");
        isOf(x, 3, "013");
        DUE.by("Terms 1a", "4 FORGED, under LOOSE");
        isOf(x, 4, "024");
        DUE.by("Terms 1a", "(all are GLOVES)");
        for (int glove = 0; glove < 6; glove++) {
            x.is(10 + glove, "as", glove, 0);
        }
    }

    private static void isOf(Run x, int glove, String kinds) {
        for (int kind = 0; kind < 6; kind++) {
            boolean is = kinds.indexOf('0' + kind) >= 0;
            x.is(is ? 10 + glove : TwoGuilds.KIND, "as", glove, kind);
        }
    }

    private static void termsOfLossAndDay() {
        DUE.by("Terms 1a", "LOSS is 0 .. 100 (5 at first).");
        Run x = run();
        x.is(5, "count", 3);
        x.is(5, "loss", 0);
        x.is(0, "loss", 100);
        x.refuses(BAD, "loss", new int[] {0}, 0, -1, 101);
        x.is(100, "count", 3);
        DUE.by("Terms 1a", "THE DAY is 0 at first, 9999 at most.");
        Run y = run();
        y.is(0, "count", 2);
        for (int i = 0; i < 99; i++) {
            y.call("days", 100);
        }
        y.call("days", 98);
        y.is(9998, "count", 2);
        y.call("days", 1);
        y.is(9999, "count", 2);
        y.call("days", 1);
        y.is(9999, "count", 2);
    }

    // ---- Terms 1b

    private static void fitsAlike() {
        DUE.by("Terms 1b", "FITS (one, by its KIND, another one)");
        Run x = two(0, 5, 1, 5, 9, 1);
        x.still(0, "fits", 0, 1);
        x.still(1, "fits", 1, 0);
        DUE.by("Terms 1b", "GLOVE: if their SIZES are alike.");
        two(0, 0, 1, 5, 0, 1).is(1, "fits", 0, 1);
        two(0, 9, 1, 5, 9, 1).is(1, "fits", 0, 1);
        two(0, 5, 1, 5, 6, 1).is(0, "fits", 0, 1);
        two(0, 5, 1, 5, 4, 1).is(0, "fits", 0, 1);
        DUE.by("Terms 1b", "LINED: as GLOVE, and if WEAR of both is below 50.");
        wornBelow50(1);
        two(1, 5, 99, 5, 5, 0).is(1, "fits", 0, 1);
        DUE.by("Terms 1b", "FURRED: as LINED, and if the other's PRICE is half (cut) of its own or more.");
        wornBelow50(3);
        int[][] halves = {{99, 49}, {98, 49}, {97, 48}, {3, 1}, {2, 1}, {1, 0}, {0, 0}};
        for (int[] half : halves) {
            two(3, 5, half[0], 5, 5, half[1]).is(1, "fits", 0, 1);
            if (half[1] > 0) {
                two(3, 5, half[0], 5, 5, half[1] - 1).is(0, "fits", 0, 1);
            }
        }
        two(3, 5, 0, 5, 5, 99).is(1, "fits", 0, 1);
    }

    private static void wornBelow50(int kind) {
        two(kind, 5, 10, 5, 6, 10).is(0, "fits", 0, 1);
        two(kind, 5, 10, 5, 4, 10).is(0, "fits", 0, 1);
        int[][] wears = {{0, 0, 1}, {49, 49, 1}, {50, 0, 0}, {0, 50, 0}, {50, 50, 0}, {99, 0, 0}, {0, 99, 0}};
        for (int[] w : wears) {
            Run x = two(kind, 5, 10, 5, 5, 10);
            x.call("set", 0, 4, w[0]);
            x.call("set", 1, 4, w[1]);
            x.is(w[2], "fits", 0, 1);
            x.is(1, "fits", 1, 0);
        }
    }

    private static void fitsLoosely() {
        DUE.by("Terms 1b", "LOOSE: if their SIZES differ by 1 at most.");
        differBy1(2);
        two(2, 5, 1, 4, 5, 1).is(1, "fits", 0, 1);
        two(2, 5, 1, 2, 5, 1).is(1, "fits", 0, 1);
        DUE.by("Terms 1b", "FORGED: as LOOSE, and if the other is no FORGED one.");
        differBy1(4);
        two(4, 5, 1, 4, 5, 1).is(0, "fits", 0, 1);
        two(4, 5, 1, 2, 5, 1).is(1, "fits", 0, 1);
        DUE.by("Terms 1b", "MITTEN: always.");
        for (int kind = 0; kind < 6; kind++) {
            Run x = two(5, 0, 99, kind, 9, 0);
            x.call("set", 0, 4, 99);
            x.call("set", 1, 4, 99);
            x.call("set", 1, 5, 1);
            x.is(1, "fits", 0, 1);
        }
    }

    private static void differBy1(int kind) {
        int[] fits = {0, 0, 1, 1, 1, 0, 0};
        for (int by = -3; by <= 3; by++) {
            two(kind, 5, 1, 5, 5 + by, 1).is(fits[by + 3], "fits", 0, 1);
        }
        two(kind, 0, 1, 5, 9, 1).is(0, "fits", 0, 1);
        two(kind, 9, 1, 5, 0, 1).is(0, "fits", 0, 1);
    }

    private static void pairs() {
        DUE.by("Terms 1b", "A PAIR are two that are not LOST, of unlike SIDES (or one of them FORGED), each of which FITS the other.");
        Run x = two(0, 5, 40, 0, 5, 30);
        x.still(70, "value", 0, 1);
        x.still(70, "value", 1, 0);
        for (int lost = 0; lost < 2; lost++) {
            x.call("set", lost, 5, 1);
            x.still(NONE, "value", 0, 1);
            x.still(NONE, "value", 1, 0);
            x.call("set", lost, 5, 0);
        }
        x.is(70, "value", 0, 1);
        for (int side = 0; side < 2; side++) {
            x.call("set", 0, 1, side);
            x.call("set", 1, 1, side);
            x.is(NONE, "value", 0, 1);
            for (int forged = 0; forged < 2; forged++) {
                x.call("turns", forged, 4);
                x.is(70, "value", 0, 1);
                x.is(70, "value", 1, 0);
                x.call("turns", forged, 0);
            }
            x.call("turns", 0, 2);
            x.is(NONE, "value", 0, 1);
            x.call("turns", 0, 0);
        }
        two(4, 5, 40, 4, 5, 30).is(NONE, "value", 0, 1);
        two(0, 5, 40, 5, 6, 30).is(NONE, "value", 0, 1);
        two(5, 5, 40, 0, 6, 30).is(NONE, "value", 0, 1);
        two(5, 5, 40, 5, 9, 30).is(70, "value", 0, 1);
    }

    private static Run priced(int price, int otherPrice, int wear, int otherWear) {
        Run x = two(0, 5, price, 0, 5, otherPrice);
        x.call("set", 0, 4, wear);
        x.call("set", 1, 4, otherWear);
        return x;
    }

    private static void valueWithoutText() {
        DUE.by("Terms 1b", "(without a TEXT: both PRICES, less a tenth (cut) of both WEARS together, 0 at least)");
        priced(0, 0, 0, 0).is(0, "value", 0, 1);
        priced(99, 99, 0, 0).is(198, "value", 0, 1);
        priced(99, 99, 99, 99).is(179, "value", 0, 1);
        priced(40, 30, 4, 5).is(70, "value", 0, 1);
        priced(40, 30, 5, 5).is(69, "value", 0, 1);
        priced(40, 30, 9, 10).is(69, "value", 0, 1);
        priced(40, 30, 10, 10).is(68, "value", 1, 0);
        priced(1, 0, 19, 0).is(0, "value", 0, 1);
        priced(1, 1, 0, 19).is(1, "value", 0, 1);
        priced(1, 0, 10, 10).is(0, "value", 0, 1);
        priced(0, 0, 99, 99).is(0, "value", 0, 1);
    }

    private static void valueByText() {
        DUE.by("Terms 1b", "VALUE of a PAIR: what pair gives, held within 0 .. 999");
        String[] texts = {"pair 0", "pair 1", "pair 0-1", "pair 998", "pair 999", "pair 1000", "pair 9999",
            "pair 8192*8192*32", "pair 8192*8192*32-1"};
        int[] due = {0, 1, 0, 998, 999, 999, 999, 0, 999};
        for (int i = 0; i < texts.length; i++) {
            Run x = priced(40, 30, 7, 8);
            x.text(texts[i]);
            x.still(due[i], "value", 0, 1);
            x.is(due[i], "best", 3);
        }
        Run x = priced(40, 30, 7, 8);
        x.text("pair 5");
        x.call("set", 1, 1, 0);
        x.is(NONE, "value", 0, 1);
    }

    private static void worth(String words, int kind, int atLeast, int atMost) {
        DUE.by("Terms 1b", words);
        Run x = run();
        x.call("glove", kind, 0, 5, 0);
        x.is(atLeast, "told", 0, 6);
        x.call("set", 0, 3, 99);
        x.still(atMost, "told", 0, 6);
        x.call("set", 0, 4, 99);
        x.call("set", 0, 5, 1);
        x.is(atMost, "told", 0, 6);
    }

    private static void worth() {
        worth("WORTH: GLOVE: PRICE.", 0, 0, 99);
        worth("LINED: as GLOVE, and 5.", 1, 5, 104);
        worth("FURRED: twice as LINED.", 3, 10, 208);
        worth("LOOSE: 99 less PRICE.", 2, 99, 0);
        worth("FORGED: as LOOSE, less 3.", 4, 96, -3);
        worth("MITTEN: 8.", 5, 8, 8);
        // all KINDS are named for FITS and WORTH, so that only PRICE (as) goes by one above
        DUE.by("Terms 1b", "(A KIND that is not named does as the one above it.)");
        Run x = ten();
        int[] worth = {0, 15, 79, 70, 56, 8, 60, 75};
        for (int i = 0; i < worth.length; i++) {
            x.is(worth[i], "told", i, 6);
            x.is(10 * i, "as", i, 0);
        }
    }

    // ---- Promise 1 to 10

    private static void newObject() {
        DUE.by("Promise 1", "As told; no GLOVES.");
        int[] counts = {0, 0, 0, 5, 0, 0, 0, 0, 1};
        for (int what = 0; what < counts.length; what++) {
            run().is(counts[what], "count", what);
        }
        Run x = run();
        for (int i = 0; i < 4; i++) {
            x.still(TwoGuilds.NOTHING, "reads", i);
        }
        for (int i = 0; i < 5; i++) {
            x.still(TwoGuilds.NOTHING, "rest", i, 1);
        }
        for (int key = 0; key < 3; key++) {
            x.still(NONE, "why", key);
        }
        x.still(BAD, "told", 0, 0);
        x.still(0, "best", 0);
        x.still(BAD, "best", 1);
        x.still(0, "fine");
        x.still(120, "joins");
        x.still(TwoGuilds.NO, "back");
        x.is(TwoGuilds.NO, "check", 1);
        x.is(-100, "text");
        Run other = run();
        x.call("glove", 0, 0, 0, 0);
        x.call("loss", 9);
        other.is(0, "count", 0);
        other.is(5, "count", 3);
    }

    private static void glove() {
        DUE.by("Promise 2", "One more GLOVE: its number.");
        Run x = run();
        x.is(0, "glove", 0, 0, 0, 0);
        x.told(0, 0, 0, 0, 0, 0, 0, 0);
        x.is(1, "glove", 5, 1, 9, 99);
        x.told(1, 5, 1, 9, 99, 0, 0, 8);
        for (int i = 2; i < 10; i++) {
            x.is(i, "count", 0);
            x.is(i, "glove", 1, 0, 5, i);
            x.told(i, 1, 0, 5, i, 0, 0, i + 5);
        }
        x.told(0, 0, 0, 0, 0, 0, 0, 0);
        x.is(10, "count", 0);
        x.is(1, "count", 8);
        DUE.by("Promise 2", "BAD");
        int[] most = {5, 1, 9, 99};
        for (Run y : new Run[] {run(), ten()}) {
            for (int i = 0; i < 4; i++) {
                y.refuses(BAD, "glove", new int[] {5, 1, 9, 99}, i, -1, most[i] + 1);
            }
        }
        DUE.by("Promise 2", "FULL.");
        Run full = ten();
        full.still(TwoGuilds.FULL, "glove", 0, 0, 0, 0);
        full.still(TwoGuilds.FULL, "glove", 5, 1, 9, 99);
        Run nine = run();
        nine.call("deal", 9);
        nine.is(9, "glove", 5, 1, 9, 99);
        nine.still(TwoGuilds.FULL, "glove", 5, 1, 9, 99);
    }

    private static void told() {
        DUE.by("Promise 3", "Of a GLOVE: what 0 KIND, 1 SIDE, 2 SIZE, 3 PRICE, 4 WEAR, 5 whether it is LOST (1, 0), 6 WORTH.");
        Run x = run();
        int[] worth = {40, 45, 59, 90, 56, 8};
        for (int kind = 0; kind < 6; kind++) {
            x.call("glove", kind, kind % 2, kind + 2, 40);
            x.call("set", kind, 4, 11 + kind);
            x.told(kind, kind, kind % 2, kind + 2, 40, 11 + kind, 0, worth[kind]);
            x.call("set", kind, 5, 1);
            x.still(1, "told", kind, 5);
        }
        DUE.by("Promise 3", "BAD.");
        x.refuses(BAD, "told", new int[] {0, 0}, 0, -1, 6, 10);
        x.refuses(BAD, "told", new int[] {0, 0}, 1, -1, 7);
        ten().refuses(BAD, "told", new int[] {0, 0}, 0, -1, 10);
        run().refuses(BAD, "told", new int[] {0, 0}, 0, -1, 0);
    }

    private static void as() {
        DUE.by("Promise 4", "A GLOVE as one of a KIND: PRICE.");
        Run x = run();
        for (int kind = 0; kind < 6; kind++) {
            x.call("glove", kind, 0, 5, 10 + kind);
        }
        x.still(10, "as", 0, 0);
        x.still(13, "as", 3, 3);
        x.still(13, "as", 3, 1);
        x.still(14, "as", 4, 2);
        x.call("set", 3, 3, 0);
        x.is(0, "as", 3, 0);
        x.call("set", 3, 3, 99);
        x.is(99, "as", 3, 0);
        DUE.by("Promise 4", "BAD: glove, kind");
        x.refuses(BAD, "as", new int[] {0, 0}, 0, -1, 6);
        x.refuses(BAD, "as", new int[] {0, 0}, 1, -1, 6);
        x.refuses(BAD, "as", new int[] {6, 5}, 1, -1, 6);
        ten().refuses(BAD, "as", new int[] {9, 3}, 0, -1, 10);
        DUE.by("Promise 4", "KIND: it is not of that KIND, nor of one under it.");
        x.still(TwoGuilds.KIND, "as", 0, 1);
        x.still(TwoGuilds.KIND, "as", 1, 3);
        x.still(TwoGuilds.KIND, "as", 2, 4);
        x.still(TwoGuilds.KIND, "as", 3, 2);
        x.still(TwoGuilds.KIND, "as", 4, 1);
        x.still(TwoGuilds.KIND, "as", 4, 3);
        x.still(TwoGuilds.KIND, "as", 5, 1);
        x.still(TwoGuilds.KIND, "as", 0, 5);
    }

    private static void turns() {
        DUE.by("Promise 5", "A GLOVE is of another KIND from now on: what it was.");
        Run x = run();
        x.call("glove", 3, 1, 4, 20);
        x.call("glove", 3, 1, 4, 20);
        x.call("set", 0, 4, 7);
        x.call("set", 0, 5, 1);
        x.is(3, "turns", 0, 5);
        x.still(5, "turns", 0, 5);
        x.told(0, 5, 1, 4, 20, 7, 1, 8);
        x.told(1, 3, 1, 4, 20, 0, 0, 50);
        int was = 5;
        for (int kind = 0; kind < 6; kind++) {
            x.is(was, "turns", 0, kind);
            x.is(kind, "told", 0, 0);
            was = kind;
        }
        DUE.by("Promise 5", "BAD.");
        x.refuses(BAD, "turns", new int[] {0, 0}, 0, -1, 2, 10);
        x.refuses(BAD, "turns", new int[] {0, 0}, 1, -1, 6);
        ten().refuses(BAD, "turns", new int[] {9, 3}, 0, -1, 10);
        run().still(BAD, "turns", 0, 0);
    }

    private static void set() {
        DUE.by("Promise 6", "SIDE, SIZE, PRICE, WEAR, LOST (what 1 .. 5; LOST 0, 1) of a GLOVE becomes v: what it was.");
        Run x = run();
        x.call("glove", 3, 0, 0, 0);
        x.call("glove", 3, 0, 0, 0);
        int[] most = {0, 1, 9, 99, 99, 1};
        for (int what = 1; what < 6; what++) {
            x.is(0, "set", 0, what, most[what]);
            x.still(most[what], "set", 0, what, most[what]);
        }
        x.told(0, 3, 1, 9, 99, 99, 1, 208);
        x.told(1, 3, 0, 0, 0, 0, 0, 10);
        for (int what = 1; what < 6; what++) {
            x.is(most[what], "set", 0, what, 0);
        }
        x.told(0, 3, 0, 0, 0, 0, 0, 10);
        DUE.by("Promise 6", "BAD.");
        for (int what = 1; what < 6; what++) {
            x.refuses(BAD, "set", new int[] {1, what, 0}, 2, -1, most[what] + 1);
        }
        x.refuses(BAD, "set", new int[] {0, 1, 0}, 1, 0, 6, -1);
        x.refuses(BAD, "set", new int[] {0, 1, 0}, 0, -1, 2);
        ten().refuses(BAD, "set", new int[] {9, 5, 1}, 0, -1, 10);
    }

    private static void fits() {
        DUE.by("Promise 7", "Whether one FITS another one: 1, 0.");
        Run x = two(2, 5, 1, 0, 6, 1);
        x.still(1, "fits", 0, 1);
        x.still(0, "fits", 1, 0);
        Run lost = two(0, 5, 1, 0, 5, 1);
        lost.call("set", 0, 5, 1);
        lost.call("set", 0, 1, 1);
        lost.still(1, "fits", 0, 1);
        DUE.by("Promise 7", "BAD: also itself.");
        refusesTwo("fits");
    }

    /** Both arguments must be gloves, and not the same one. */
    private static void refusesTwo(String name) {
        Run x = two(5, 5, 1, 5, 5, 1);
        x.still(BAD, name, 0, 0);
        x.still(BAD, name, 1, 1);
        x.refuses(BAD, name, new int[] {0, 1}, 0, -1, 2);
        x.refuses(BAD, name, new int[] {0, 1}, 1, -1, 2);
        x.still(BAD, name, 2, 2);
        Run y = ten();
        y.still(BAD, name, 9, 9);
        y.refuses(BAD, name, new int[] {0, 9}, 1, -1, 10);
        run().still(BAD, name, 0, 1);
    }

    private static void value() {
        DUE.by("Promise 8", "VALUE of a PAIR.");
        Run x = priced(40, 30, 7, 8);
        x.still(69, "value", 0, 1);
        x.still(69, "value", 1, 0);
        x.text("pair a*4+b*0+w");
        x.still(135, "value", 0, 1);
        x.still(135, "value", 1, 0);
        x.text("pair b*20");
        x.is(800, "value", 0, 1);
        DUE.by("Promise 8", "BAD: also itself");
        refusesTwo("value");
        DUE.by("Promise 8", "NONE: they are no PAIR.");
        Run none = two(0, 5, 0, 0, 5, 0);
        none.still(0, "value", 0, 1);
        none.call("set", 0, 2, 6);
        none.still(NONE, "value", 0, 1);
        none.still(NONE, "value", 1, 0);
    }

    private static void deal() {
        DUE.by("Promise 9", "GLOVES are drawn, n (1 .. 10) of them");
        Run x = run();
        x.refuses(BAD, "deal", new int[] {0}, 0, -1, 0, 11);
        x.is(1, "deal", 1);
        x.is(2, "deal", 2);
        x.told(0, 2, 0, 6, 3, 0, 0, 96);
        x.told(1, 1, 0, 0, 46, 0, 0, 51);
        x.told(2, 4, 1, 4, 96, 0, 0, 0);
        x.is(836760821, "count", 8);
        run().is(10, "deal", 10);
        DUE.by("Promise 9", "as many as there is room for (no draws for others)");
        Run seven = x.twin();
        seven.call("deal", 7);
        x.is(7, "deal", 8);
        x.is(seven.call("count", 8), "count", 8);
        x.is(10, "count", 0);
        x.still(0, "deal", 1);
        x.still(0, "deal", 10);
        Run nine = run();
        nine.call("deal", 9);
        nine.is(1, "deal", 10);
        Run once = run();
        once.call("deal", 10);
        once.is(x.call("count", 8), "count", 8);
        DUE.by("Promise 9", "how many came.");
        for (int there = 0; there <= 10; there++) {
            Run y = run();
            for (int i = 0; i < there; i++) {
                y.call("glove", 0, 0, 0, 0);
            }
            y.is(Math.min(4, 10 - there), "deal", 4);
            y.is(Math.min(10, there + 4), "count", 0);
        }
        DUE.by("Promise 9", "BAD.");
        ten().refuses(BAD, "deal", new int[] {0}, 0, -1, 0, 11);
    }

    private static void seed() {
        DUE.by("Promise 10", "z becomes v: what it was.");
        Run x = run();
        x.is(1, "seed", LEAST);
        x.is(LEAST, "count", 8);
        x.is(LEAST, "seed", MOST);
        x.is(MOST, "seed", 0);
        x.is(0, "seed", -1);
        x.is(-1, "seed", BAD);
        x.is(BAD, "seed", 7);
        x.still(7, "seed", 7);
        x.is(1, "deal", 1);
        x.is(93, "told", 0, 3);
        x.is(1486001571, "count", 8);
    }
}
