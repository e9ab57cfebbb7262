import java.util.List;

/** Part 5 of the terms and promises 30 to 38: sheets and slots. */
public final class SheetsTest {
    private static final Due DUE = new Due();
    private static final int BAD = TwoGuilds.BAD;
    private static final int NO = TwoGuilds.NO;
    private static final int NONE = TwoGuilds.NONE;
    private static final int NOTHING = TwoGuilds.NOTHING;
    private static final int KIND = TwoGuilds.KIND;
    private static final int INDEX = TwoGuilds.INDEX;
    private static final int SIZE = TwoGuilds.SIZE;
    private static final int LEAST = Integer.MIN_VALUE;
    private static final int MOST = Integer.MAX_VALUE;

    public static void main(String[] args) {
        termsOfSheets();
        termsOfSlots();
        findings();
        sheet();
        mark();
        markRefused();
        pour();
        reads();
        copy();
        copyRefused();
        copyOfNone();
        lay();
        ask();
        item();
        rest();
        DUE.end(List.of("Terms 5a", "Promise 30", "Promise 31", "Promise 32", "Promise 33", "Promise 34", "Promise 35",
            "Promise 36", "Promise 37", "Promise 38"));
    }

    private static Run run() {
        return new Run(DUE);
    }

    private static Run with(int sheet, int sort, int... places) {
        Run x = run();
        x.row(sheet, sort, places);
        return x;
    }

    /** Slot 0 holds a FURRED glove, 1 a row of floats, 2 a number, 3 and 4 nothing. */
    private static Run slots() {
        Run x = with(0, 1, 4, NONE);
        x.call("glove", 3, 0, 5, 20);
        x.call("lay", 0, 1, 0);
        x.call("lay", 1, 2, 0);
        x.call("lay", 2, 3, -11);
        return x;
    }

    // ---- Terms 5a

    private static void termsOfSheets() {
        DUE.by("Terms 5a", "SHEETS 0 .. 3 are rows of shorts (sort 0) or floats (1; whole numbers),");
        for (int sheet = 0; sheet <= 3; sheet++) {
            Run x = with(sheet, 0, 40000);
            x.rowIs(sheet, 40000 - 65536);
            x.is(1, "sheet", sheet, 1, 1);
            x.is(1, "mark", sheet, 0, 40000);
            x.rowIs(sheet, 40000);
        }
        run().refuses(BAD, "sheet", new int[] {0, 0, 1}, 0, -1, 4);
        DUE.by("Terms 5a", "with 0 to 24 places,");
        for (int sort = 0; sort <= 1; sort++) {
            Run x = run();
            x.is(0, "sheet", 0, sort, 0);
            x.rowIs(0);
            x.is(24, "sheet", 0, sort, 24);
            x.rowIs(0, new int[24]);
            x.still(BAD, "sheet", 0, sort, 25);
            x.still(SIZE, "sheet", 0, sort, -1);
        }
        DUE.by("Terms 5a", "or MISSING (at first).");
        for (int sheet = 0; sheet <= 3; sheet++) {
            run().still(NOTHING, "reads", sheet);
            run().still(NOTHING, "lay", 0, 2, sheet);
        }
        DUE.by("Terms 5a", "A place of floats may be NO NUMBER.");
        Run x = with(0, 1, 7, NONE, 0);
        x.rowIs(0, 7, KIND, 0);
        with(0, 0, 7).still(KIND, "mark", 0, 0, NONE);
    }

    private static void termsOfSlots() {
        DUE.by("Terms 5a", "SLOTS 0 .. 4 each hold nothing (at first),");
        for (int slot = 0; slot <= 4; slot++) {
            Run x = run();
            x.still(NOTHING, "ask", slot, 0);
            x.still(NOTHING, "item", slot, 0);
            x.still(NOTHING, "rest", slot, 1);
            x.still(0, "lay", slot, 0, 0);
        }
        run().refuses(BAD, "lay", new int[] {0, 3, 7}, 0, -1, 5);
        DUE.by("Terms 5a", "a GLOVE (as it is then, for good),");
        Run x = slots();
        x.call("set", 0, 3, 99);
        x.is(50, "ask", 0, 3);
        x.call("turns", 0, 5);
        x.is(50, "ask", 0, 3);
        x.is(KIND, "ask", 0, 5);
        x.call("loss", 100);
        x.call("days", 1);
        x.is(50, "ask", 0, 0);
        Run gone = run();
        gone.call("keep");
        gone.call("glove", 0, 0, 0, 33);
        gone.call("lay", 4, 1, 0);
        gone.call("back");
        gone.is(33, "ask", 4, 0);
        gone.call("glove", 0, 0, 0, 44);
        gone.is(33, "ask", 4, 0);
        DUE.by("Terms 5a", "a SHEET (a row of its own, as it was then),");
        Run y = slots();
        y.call("mark", 0, 0, 9);
        y.is(4, "item", 1, 0);
        y.call("sheet", 0, 0, 24);
        y.is(4, "item", 1, 0);
        y.is(INDEX, "item", 1, 2);
        y.call("sheet", 0, -1, 0);
        y.is(4, "item", 1, 0);
        y.is(KIND, "item", 1, 1);
        y.row(0, 0, 5, 6);
        y.call("lay", 4, 2, 0);
        y.call("lay", 3, 2, 0);
        y.call("mark", 0, 0, 1);
        y.call("lay", 3, 2, 0);
        y.is(5, "item", 4, 0);
        y.is(1, "item", 3, 0);
        DUE.by("Terms 5a", "or a number.");
        for (int number : new int[] {0, 1, -1, LEAST, MOST, NONE, NOTHING}) {
            Run z = run();
            z.is(0, "lay", 4, 3, number);
            z.is(number == LEAST ? 0 : number, "rest", 4, LEAST);
            z.is(number % 1000, "rest", 4, 1000);
        }
    }

    private static void findings() {
        DUE.by("Terms 5a", "FINDINGS: NOTHING: a SHEET is MISSING, a SLOT holds nothing;");
        Run x = run();
        x.still(NOTHING, "leaves", 0);
        x.still(NOTHING, "mark", 0, 0, 0);
        x.still(NOTHING, "pour", 0);
        x.still(NOTHING, "reads", 0);
        x.still(NOTHING, "copy", 0, 0, 0, 0, 0);
        x.still(NOTHING, "lay", 0, 2, 0);
        x.still(NOTHING, "ask", 0, 0);
        x.still(NOTHING, "item", 0, 0);
        x.still(NOTHING, "rest", 0, 0);
        DUE.by("Terms 5a", "INDEX: there is no such place;");
        Run y = with(0, 0, 7, 8);
        y.call("lay", 0, 2, 0);
        y.still(INDEX, "mark", 0, 2, 0);
        y.still(INDEX, "copy", 0, 2, 0, 0, 1);
        y.still(INDEX, "item", 0, 2);
        y.still(INDEX, "item", 0, -1);
        DUE.by("Terms 5a", "SIZE: a number of places is below 0;");
        y.still(SIZE, "sheet", 0, 0, -1);
        y.still(SIZE, "sheet", 0, 1, LEAST);
        DUE.by("Terms 5a", "KIND: it is none (of a KIND, a number, or another thing).");
        Run z = slots();
        z.still(KIND, "as", 0, 2);
        z.still(KIND, "ask", 0, 2);
        z.still(KIND, "item", 1, 1);
        z.still(KIND, "rest", 0, 1);
        z.still(KIND, "ask", 1, 0);
    }

    // ---- Promise 30 to 38

    private static void sheet() {
        DUE.by("Promise 30", "A SHEET becomes a row of n places of a sort, all 0");
        Run x = with(0, 1, 5, NONE, 7);
        x.is(3, "sheet", 0, 1, 3);
        x.rowIs(0, 0, 0, 0);
        x.row(0, 1, 5, NONE, 7);
        x.is(4, "sheet", 0, 0, 4);
        x.rowIs(0, 0, 0, 0, 0);
        x.row(0, 0, 1, 2, 3, 4);
        x.is(2, "sheet", 0, 0, 2);
        x.is(4, "sheet", 0, 0, 4);
        x.rowIs(0, 0, 0, 0, 0);
        x.is(24, "sheet", 3, 1, 24);
        x.is(1, "mark", 3, 23, 1);
        x.is(0, "sheet", 3, 0, 0);
        x.is(NONE, "reads", 3);
        x.rowIs(0, 0, 0, 0, 0);
        DUE.by("Promise 30", "(sort -1: MISSING, n any): n (0).");
        for (int n : new int[] {0, 1, 24, 25, -1, LEAST, MOST}) {
            Run y = with(2, 1, 5, 6);
            y.leavesAs(run(), 0, "sheet", 2, -1, n);
            y.still(0, "sheet", 2, -1, n);
        }
        DUE.by("Promise 30", "BAD: sheet, sort, n above 24;");
        for (Run y : new Run[] {run(), with(0, 1, 5, NONE)}) {
            y.refuses(BAD, "sheet", new int[] {0, 0, 1}, 0, -1, 4);
            y.refuses(BAD, "sheet", new int[] {0, 0, -1}, 0, -1, 4);
            y.refuses(BAD, "sheet", new int[] {0, -1, 1}, 0, -1, 4);
            y.refuses(BAD, "sheet", new int[] {0, 0, 1}, 1, -2, 2);
            y.refuses(BAD, "sheet", new int[] {0, 0, -1}, 1, -2, 2);
            y.still(BAD, "sheet", 0, 0, 25);
            y.still(BAD, "sheet", 0, 1, 25);
            y.still(BAD, "sheet", 0, 1, MOST);
        }
        DUE.by("Promise 30", "SIZE.");
        for (Run y : new Run[] {run(), with(0, 1, 5, NONE)}) {
            y.still(SIZE, "sheet", 0, 0, -1);
            y.still(SIZE, "sheet", 0, 1, -1);
            y.still(SIZE, "sheet", 3, 1, LEAST);
        }
    }

    private static void mark() {
        DUE.by("Promise 31", "A place of a SHEET becomes v (of shorts its lowest 16 bits;");
        int[][] shorts = {{32767, 32767}, {32768, -32768}, {-32768, -32768}, {-32769, 32767}, {65535, -1}, {65536, 0},
            {0x12345678, 0x5678}, {0x1234a678, 0xa678 - 65536}, {LEAST, 0}, {MOST, -1}, {BAD, (short) BAD}, {NONE - 1, (short) (NONE - 1)}};
        for (int[] s : shorts) {
            Run x = with(0, 0, 1, 2, 3);
            x.is(1, "mark", 0, 1, s[0]);
            x.rowIs(0, 1, s[1], 3);
        }
        Run last = run();
        last.call("sheet", 3, 0, 24);
        last.is(1, "mark", 3, 0, 5);
        last.is(1, "mark", 3, 23, 6);
        int[] due = new int[24];
        due[0] = 5;
        due[23] = 6;
        last.rowIs(3, due);
        DUE.by("Promise 31", "of floats v, -99999 .. 99999;");
        for (int v : new int[] {99999, -99999, 0, 40000, -40000, 99998}) {
            Run x = with(0, 1, 1, 2, 3);
            x.is(1, "mark", 0, 2, v);
            x.rowIs(0, 1, 2, v);
        }
        DUE.by("Promise 31", "NONE: NO NUMBER): 1.");
        Run x = with(0, 1, 1, 2, 3);
        x.is(1, "mark", 0, 1, NONE);
        x.rowIs(0, 1, KIND, 3);
        x.still(1, "mark", 0, 1, NONE);
        x.is(1, "mark", 0, 1, 8);
        x.rowIs(0, 1, 8, 3);
    }

    private static void markRefused() {
        Run x = with(0, 0, 1, 2);
        x.row(1, 1, 3, 4);
        x.call("sheet", 2, 1, 0);
        DUE.by("Promise 31", "BAD: sheet;");
        x.refuses(BAD, "mark", new int[] {0, 0, 0}, 0, -1, 4);
        x.refuses(BAD, "mark", new int[] {0, 9, NONE}, 0, -1, 4);
        DUE.by("Promise 31", "NOTHING;");
        x.still(NOTHING, "mark", 3, 0, 0);
        x.still(NOTHING, "mark", 3, -1, NONE);
        x.still(NOTHING, "mark", 3, 24, 100000);
        DUE.by("Promise 31", "INDEX;");
        for (int v : new int[] {0, NONE, 100000}) {
            x.refuses(INDEX, "mark", new int[] {0, 0, v}, 1, -1, 2, 24);
            x.refuses(INDEX, "mark", new int[] {1, 0, v}, 1, -1, 2, 24);
            x.refuses(INDEX, "mark", new int[] {2, 0, v}, 1, -1, 0);
        }
        Run full = run();
        full.call("sheet", 0, 0, 24);
        full.refuses(INDEX, "mark", new int[] {0, 0, 1}, 1, -1, 24);
        DUE.by("Promise 31", "KIND: NONE in a row of shorts;");
        x.still(KIND, "mark", 0, 0, NONE);
        x.still(KIND, "mark", 0, 1, NONE);
        DUE.by("Promise 31", "BAD: v of floats.");
        x.refuses(BAD, "mark", new int[] {1, 0, 0}, 2, 100000, -100000, NONE - 1, NONE + 1, BAD);
    }

    private static Run sixGloves() {
        Run x = run();
        for (int i = 0; i < 6; i++) {
            x.call("glove", i, i % 2, 5, 40);
        }
        return x;
    }

    private static void prices(Run x, int... due) {
        for (int i = 0; i < due.length; i++) {
            x.is(due[i], "told", i, 3);
        }
    }

    private static void pour() {
        DUE.by("Promise 32", "PRICES of GLOVES, by numbers, become the places of a SHEET from 0 on");
        Run x = sixGloves();
        x.call("set", 0, 5, 1);
        x.row(0, 0, 1, 2, 3, 4, 5, 6);
        x.is(6, "pour", 0);
        prices(x, 1, 2, 3, 4, 5, 6);
        x.rowIs(0, 1, 2, 3, 4, 5, 6);
        x.row(3, 1, 9, 8, 7, 6, 5, 4, 3, 2, 1);
        // 4 has that price already
        x.is(5, "pour", 3);
        prices(x, 9, 8, 7, 6, 5, 4);
        DUE.by("Promise 32", "(each held within 0 .. 99;");
        Run y = sixGloves();
        y.row(1, 1, -1, 0, 99, 100, 99999, -99999);
        y.is(6, "pour", 1);
        prices(y, 0, 0, 99, 99, 99, 0);
        y.row(1, 0, 32767, -32768, 98, 1, 65535, 65536 + 50);
        y.is(5, "pour", 1);
        prices(y, 99, 0, 98, 1, 0, 50);
        DUE.by("Promise 32", "NO NUMBER, and beyond the SHEET: they stay):");
        Run z = sixGloves();
        z.row(2, 1, 50, NONE, 51, NONE);
        z.is(2, "pour", 2);
        prices(z, 50, 40, 51, 40, 40, 40);
        z.row(2, 0);
        z.still(0, "pour", 2);
        z.row(2, 1, NONE, NONE);
        z.still(0, "pour", 2);
        DUE.by("Promise 32", "how many are otherwise then.");
        z.row(2, 1, 50, 41, 51, 40);
        z.is(1, "pour", 2);
        z.still(0, "pour", 2);
        z.row(2, 1, 100, -5);
        z.is(2, "pour", 2);
        z.row(2, 1, 101, -6);
        z.still(0, "pour", 2);
        Run none = with(0, 0, 1, 2, 3);
        none.still(0, "pour", 0);
        DUE.by("Promise 32", "BAD;");
        z.refuses(BAD, "pour", new int[] {0}, 0, -1, 4);
        DUE.by("Promise 32", "NOTHING.");
        z.still(NOTHING, "pour", 0);
        z.still(NOTHING, "pour", 3);
    }

    private static void reads() {
        DUE.by("Promise 33", "The first place (of numbers alone) at which a SHEET is not WEAR of that GLOVE");
        Run x = sixGloves();
        x.call("set", 2, 4, 99);
        x.call("set", 3, 4, 30);
        x.call("set", 3, 5, 1);
        x.row(0, 0, 0, 0, 99, 30, 0, 0);
        x.still(NONE, "reads", 0);
        x.call("mark", 0, 5, 1);
        x.still(5, "reads", 0);
        x.call("mark", 0, 3, 0);
        x.still(3, "reads", 0);
        x.call("mark", 0, 0, 65536);
        x.still(3, "reads", 0);
        x.call("mark", 0, 0, -1);
        x.still(0, "reads", 0);
        x.row(3, 1, NONE, NONE, 98, 30, 0);
        x.still(2, "reads", 3);
        x.call("mark", 3, 2, NONE);
        x.still(NONE, "reads", 3);
        DUE.by("Promise 33", "(of places that are no GLOVE all numbers are not).");
        x.row(1, 0, 0, 0, 99, 30, 0, 0, 0);
        x.still(6, "reads", 1);
        x.row(1, 1, NONE, NONE, NONE, NONE, NONE, NONE, NONE, NONE, 0);
        x.still(8, "reads", 1);
        Run none = with(0, 0, 0);
        none.still(0, "reads", 0);
        Run full = run();
        full.call("deal", 10);
        full.call("sheet", 0, 0, 24);
        full.still(10, "reads", 0);
        DUE.by("Promise 33", "BAD;");
        x.refuses(BAD, "reads", new int[] {0}, 0, -1, 4);
        DUE.by("Promise 33", "NOTHING;");
        x.still(NOTHING, "reads", 2);
        run().still(NOTHING, "reads", 3);
        DUE.by("Promise 33", "NONE: there is none.");
        with(0, 0).still(NONE, "reads", 0);
        with(0, 1, NONE, NONE).still(NONE, "reads", 0);
        full.call("sheet", 0, 0, 10);
        full.still(NONE, "reads", 0);
    }

    private static void copy() {
        DUE.by("Promise 34", "So many places of a SHEET come to another one (or the same), as they were: many.");
        Run x = with(0, 1, 1, NONE, 3, 4);
        x.call("sheet", 1, 1, 3);
        x.is(2, "copy", 0, 1, 1, 0, 2);
        x.rowIs(1, KIND, 3, 0);
        x.rowIs(0, 1, KIND, 3, 4);
        x.is(1, "copy", 0, 3, 1, 0, 1);
        x.rowIs(1, 4, 3, 0);
        x.is(3, "copy", 0, 0, 0, 1, 3);
        x.rowIs(0, 1, 1, KIND, 3);
        x.is(3, "copy", 0, 1, 0, 0, 3);
        x.rowIs(0, 1, KIND, 3, 3);
        x.still(4, "copy", 0, 0, 0, 0, 4);
        Run full = run();
        int[] all = new int[24];
        for (int i = 0; i < 24; i++) {
            all[i] = 100 + i;
        }
        full.row(2, 0, all);
        full.call("sheet", 3, 0, 24);
        full.is(24, "copy", 2, 0, 3, 0, 24);
        full.rowIs(3, all);
        full.is(23, "copy", 3, 0, 3, 1, 23);
        int[] moved = new int[24];
        moved[0] = 100;
        System.arraycopy(all, 0, moved, 1, 23);
        full.rowIs(3, moved);
        DUE.by("Promise 34", "(From a SHEET, its place, to a SHEET, its place.)");
        Run y = with(2, 0, 7, 8);
        y.row(3, 0, 9, 9, 9);
        y.is(2, "copy", 2, 0, 3, 1, 2);
        y.rowIs(3, 9, 7, 8);
        y.is(1, "copy", 3, 0, 2, 1, 1);
        y.rowIs(2, 7, 9);
        y.rowIs(3, 9, 7, 8);
    }

    private static void copyRefused() {
        Run x = with(0, 1, 1, 2, 3, 4);
        x.row(1, 1, 5, 6);
        x.row(2, 0, 7, 8);
        DUE.by("Promise 34", "BAD;");
        x.refuses(BAD, "copy", new int[] {0, 0, 1, 0, 1}, 0, -1, 4);
        x.refuses(BAD, "copy", new int[] {0, 0, 1, 0, 1}, 2, -1, 4);
        x.still(BAD, "copy", 4, 9, 3, 9, 1);
        x.still(BAD, "copy", 3, 9, 4, 9, 1);
        DUE.by("Promise 34", "NOTHING;");
        x.still(NOTHING, "copy", 3, 0, 0, 0, 1);
        x.still(NOTHING, "copy", 0, 0, 3, 0, 1);
        x.still(NOTHING, "copy", 3, 0, 3, 0, 0);
        x.still(NOTHING, "copy", 3, 9, 2, -1, -1);
        DUE.by("Promise 34", "KIND: they are not of one sort;");
        x.still(KIND, "copy", 0, 0, 2, 0, 1);
        x.still(KIND, "copy", 2, 0, 0, 0, 1);
        x.still(KIND, "copy", 0, 0, 2, 0, 0);
        x.still(KIND, "copy", 2, 9, 1, -1, -1);
        DUE.by("Promise 34", "INDEX.");
        x.refuses(INDEX, "copy", new int[] {0, 0, 1, 0, 1}, 1, -1, 4);
        x.refuses(INDEX, "copy", new int[] {0, 0, 1, 0, 1}, 3, -1, 2);
        x.refuses(INDEX, "copy", new int[] {0, 0, 1, 0, 0}, 4, -1, 3);
        x.refuses(INDEX, "copy", new int[] {0, 1, 1, 1, 0}, 4, -1, 2);
        x.still(INDEX, "copy", 0, 3, 1, 0, 2);
        x.still(INDEX, "copy", 0, 0, 1, 1, 2);
        x.still(INDEX, "copy", 0, 0, 0, 1, 4);
        x.still(INDEX, "copy", 0, MOST, 1, 0, 2);
        x.still(INDEX, "copy", 0, 2, 1, MOST, MOST);
        x.twin().is(1, "copy", 0, 3, 1, 1, 1);
        x.twin().is(2, "copy", 0, 2, 1, 0, 2);
    }

    /** No places are asked for: any place up to right behind the last one will do. */
    private static void copyOfNone() {
        DUE.by("Promise 34", "INDEX.");
        Run x = with(0, 1, 1, 2, 3, 4);
        x.row(1, 1, 5, 6);
        x.call("sheet", 2, 1, 0);
        x.still(0, "copy", 0, 0, 1, 0, 0);
        x.still(0, "copy", 0, 4, 1, 2, 0);
        x.still(0, "copy", 2, 0, 2, 0, 0);
        x.still(INDEX, "copy", 0, 5, 1, 2, 0);
        x.still(INDEX, "copy", 0, 4, 1, 3, 0);
        x.still(INDEX, "copy", 0, -1, 1, 0, 0);
        x.still(INDEX, "copy", 0, 0, 1, -1, 0);
        x.still(INDEX, "copy", 2, 0, 0, 0, 1);
        x.still(INDEX, "copy", 0, 0, 2, 0, 1);
    }

    private static void lay() {
        DUE.by("Promise 35", "A SLOT holds: thing 0 nothing, 1 GLOVE k, 2 SHEET k, 3 the number k: what it held (0 .. 3).");
        Run x = with(3, 0, 4, 5);
        x.call("deal", 9);
        x.call("glove", 3, 0, 5, 20);
        int held = 0;
        for (int thing : new int[] {1, 1, 2, 2, 3, 3, 1, 3, 2, 1, 0, 2, 0, 3, 0, 0}) {
            for (int slot = 0; slot <= 4; slot++) {
                x.is(held, "lay", slot, thing, thing == 1 ? 9 : 3);
                x.is(thing == 1 ? 50 : thing == 0 ? NOTHING : KIND, "ask", slot, 1);
                x.is(thing == 2 ? 5 : thing == 0 ? NOTHING : KIND, "item", slot, 1);
                x.is(thing == 3 ? 3 : thing == 0 ? NOTHING : KIND, "rest", slot, 4);
            }
            held = thing;
        }
        for (int k : new int[] {-1, 10, LEAST, MOST}) {
            run().still(0, "lay", 0, 0, k);
            slots().is(3, "lay", 2, 0, k);
        }
        DUE.by("Promise 35", "BAD: slot, thing, k;");
        Run y = slots();
        for (int thing = 0; thing <= 3; thing++) {
            y.refuses(BAD, "lay", new int[] {0, thing, 0}, 0, -1, 5);
        }
        y.refuses(BAD, "lay", new int[] {0, 0, 0}, 1, -1, 4);
        y.refuses(BAD, "lay", new int[] {0, 1, 0}, 2, -1, 1, 10);
        y.refuses(BAD, "lay", new int[] {0, 2, 0}, 2, -1, 4);
        y.still(BAD, "lay", 5, 2, 3);
        run().still(BAD, "lay", 0, 1, 0);
        DUE.by("Promise 35", "NOTHING: that SHEET is MISSING.");
        for (int slot = 0; slot <= 4; slot++) {
            y.still(NOTHING, "lay", slot, 2, 1);
            y.still(NOTHING, "lay", slot, 2, 3);
        }
        Run empty = with(1, 0);
        empty.is(0, "lay", 0, 2, 1);
        empty.is(INDEX, "item", 0, 0);
    }

    private static void ask() {
        DUE.by("Promise 36", "WORTH of the GLOVE in a SLOT, taken for one of a KIND (0 .. 5).");
        int[] worth = {20, 25, 79, 50, 76, 8};
        String[] of = {"0", "01", "02", "013", "024", "05"};
        for (int own = 0; own < 6; own++) {
            Run x = run();
            x.call("glove", own, 0, 5, 20);
            x.call("lay", own % 5, 1, 0);
            for (int kind = 0; kind <= 5; kind++) {
                boolean is = of[own].indexOf('0' + kind) >= 0;
                x.still(is ? worth[own] : KIND, "ask", own % 5, kind);
            }
        }
        DUE.by("Promise 36", "BAD;");
        Run x = slots();
        for (int slot = 0; slot <= 4; slot++) {
            x.refuses(BAD, "ask", new int[] {slot, 0}, 1, -1, 6);
        }
        x.refuses(BAD, "ask", new int[] {0, 0}, 0, -1, 5);
        DUE.by("Promise 36", "NOTHING;");
        x.still(NOTHING, "ask", 3, 0);
        x.still(NOTHING, "ask", 4, 5);
        x.call("lay", 0, 0, 0);
        x.still(NOTHING, "ask", 0, 3);
        DUE.by("Promise 36", "KIND: it is no GLOVE, or not of that KIND, nor of one under it.");
        Run y = slots();
        y.still(KIND, "ask", 1, 0);
        y.still(KIND, "ask", 2, 0);
        y.still(KIND, "ask", 0, 2);
        y.still(KIND, "ask", 0, 4);
        y.still(KIND, "ask", 0, 5);
        y.still(50, "ask", 0, 1);
    }

    private static void item() {
        DUE.by("Promise 37", "A place of the SHEET in a SLOT.");
        Run x = run();
        x.call("sheet", 0, 0, 24);
        x.call("mark", 0, 0, 32768);
        x.call("mark", 0, 23, 32767);
        x.call("lay", 4, 2, 0);
        x.still(-32768, "item", 4, 0);
        x.still(0, "item", 4, 1);
        x.still(32767, "item", 4, 23);
        Run floats = with(1, 1, 99999, -99999);
        floats.call("lay", 0, 2, 1);
        floats.still(99999, "item", 0, 0);
        floats.still(-99999, "item", 0, 1);
        Run y = slots();
        DUE.by("Promise 37", "BAD: slot;");
        y.refuses(BAD, "item", new int[] {0, 0}, 0, -1, 5);
        y.refuses(BAD, "item", new int[] {0, 99}, 0, -1, 5);
        DUE.by("Promise 37", "NOTHING;");
        y.still(NOTHING, "item", 3, 0);
        y.still(NOTHING, "item", 4, -1);
        DUE.by("Promise 37", "KIND: it is no SHEET;");
        y.still(KIND, "item", 0, 0);
        y.still(KIND, "item", 0, -1);
        y.still(KIND, "item", 2, 0);
        y.still(KIND, "item", 2, 99);
        DUE.by("Promise 37", "INDEX;");
        y.refuses(INDEX, "item", new int[] {1, 0}, 1, -1, 2, 24);
        x.refuses(INDEX, "item", new int[] {4, 0}, 1, -1, 24);
        DUE.by("Promise 37", "KIND: NO NUMBER.");
        y.still(KIND, "item", 1, 1);
        y.still(4, "item", 1, 0);
    }

    private static void rest() {
        DUE.by("Promise 38", "The rest of the number in a SLOT by n.");
        int[][] rests = {{11, 4, 3}, {11, -4, 3}, {-11, 4, -3}, {-11, -4, -3}, {0, 5, 0}, {5, 5, 0}, {4, 5, 4}, {7, 1, 0}, {7, -1, 0},
            {LEAST, -1, 0}, {LEAST, 1, 0}, {LEAST, LEAST, 0}, {MOST, LEAST, MOST}, {LEAST, MOST, -1}, {LEAST, 10, -8}, {MOST, 10, 7}};
        for (int i = 0; i < rests.length; i++) {
            Run x = run();
            x.call("lay", i % 5, 3, rests[i][0]);
            x.still(rests[i][2], "rest", i % 5, rests[i][1]);
        }
        Run y = slots();
        DUE.by("Promise 38", "BAD: slot;");
        y.refuses(BAD, "rest", new int[] {0, 1}, 0, -1, 5);
        y.refuses(BAD, "rest", new int[] {0, 0}, 0, -1, 5);
        DUE.by("Promise 38", "NOTHING;");
        y.still(NOTHING, "rest", 3, 1);
        y.still(NOTHING, "rest", 4, 0);
        DUE.by("Promise 38", "KIND: it is no number;");
        y.still(KIND, "rest", 0, 1);
        y.still(KIND, "rest", 1, 1);
        y.still(KIND, "rest", 0, 0);
        y.still(KIND, "rest", 1, 0);
        DUE.by("Promise 38", "NO: n is 0.");
        y.still(NO, "rest", 2, 0);
        Run zero = run();
        zero.call("lay", 0, 3, 0);
        zero.still(NO, "rest", 0, 0);
    }
}
