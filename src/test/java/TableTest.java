import java.util.List;

/** Part 2 of the terms and promises 11 to 14: the best pairing, and who would leave a told one. */
public final class TableTest {
    private static final Due DUE = new Due();
    private static final int BAD = TwoGuilds.BAD;
    private static final int NONE = TwoGuilds.NONE;

    public static void main(String[] args) {
        pairings();
        bestOfSeveral();
        termsOfAdds();
        toldPartners();
        firstTwo();
        greaterValue();
        best();
        partner();
        adds();
        leaves();
        DUE.end(List.of("Terms 2a", "Promise 11", "Promise 12", "Promise 13", "Promise 14"));
    }

    /** Gloves of one size and sides by turns, left first. */
    private static Run row(int... prices) {
        Run x = new Run(DUE);
        for (int i = 0; i < prices.length; i++) {
            x.call("glove", 0, i % 2, 5, prices[i]);
        }
        return x;
    }

    /** Gloves of one size, those of some numbers right. */
    private static Run sides(int... sides) {
        Run x = new Run(DUE);
        for (int side : sides) {
            x.call("glove", 0, side, 5, 5);
        }
        return x;
    }

    private static void partners(Run x, int... due) {
        for (int i = 0; i < due.length; i++) {
            x.is(due[i] < 0 ? NONE : due[i], "partner", i);
        }
    }

    // ---- Terms 2a

    private static void pairings() {
        DUE.by("Terms 2a", "A PAIRING: PAIRS, no GLOVE in two of them;");
        Run x = row(10, 20, 30);
        x.is(50, "best", 7);
        partners(x, -1, 2, 1);
        Run forged = sides(0, 0, 0, 0);
        forged.call("turns", 1, 4);
        forged.is(10, "best", 15);
        partners(forged, 1, 0, -1, -1);
        sides(0, 0, 0, 0).is(0, "best", 15);
        DUE.by("Terms 2a", "its VALUE is that of all of them, together.");
        Run four = row(1, 2, 3, 4);
        four.is(10, "best", 15);
        Run ten = row(99, 99, 99, 99, 99, 99, 99, 99, 99, 99);
        ten.is(990, "best", 1023);
        ten.text("pair 9999");
        ten.is(4995, "best", 1023);
        DUE.by("Terms 2a", "THE BEST PAIRING of a set of GLOVES: the greatest VALUE;");
        Run y = row(1, 9, 9, 1);
        y.text("pair a*b");
        y.still(82, "best", 15);
        partners(y, 3, 2, 1, 0);
        y.text("pair 20-a*b");
        y.still(22, "best", 15);
        partners(y, 1, 0, 3, 2);
    }

    private static void bestOfSeveral() {
        DUE.by("Terms 2a", "of several the one in which GLOVE 0 has the least partner");
        partners(row(5, 5, 5, 5), 1, 0, 3, 2);
        partners(row(0, 0, 0, 0, 0), 1, 0, 3, 2, -1);
        partners(sides(0, 0, 0, 1, 1, 1), 3, 4, 5, 0, 1, 2);
        partners(row(5, 5, 5, 5, 5, 5, 5, 5, 5, 5), 1, 0, 3, 2, 5, 4, 7, 6, 9, 8);
        DUE.by("Terms 2a", "(to have none comes behind all numbers)");
        partners(sides(0, 0, 1), 2, -1, 0);
        Run zero = row(0, 0);
        partners(zero, 1, 0);
        zero.text("pair 0-5");
        partners(zero, 1, 0);
        Run last = sides(0, 0, 0, 0, 0, 0, 0, 0, 0, 1);
        partners(last, 9, -1, -1, -1, -1, -1, -1, -1, -1, 0);
        DUE.by("Terms 2a", "then GLOVE 1, and so on.");
        partners(sides(1, 1, 0, 0, 0), 2, 3, 0, 1, -1);
        Run x = sides(1, 1, 0, 0, 0);
        x.call("set", 2, 3, 4);
        partners(x, 3, 4, -1, 0, 1);
        Run alone = sides(0, 0, 0, 0, 1, 1);
        alone.call("set", 0, 2, 9);
        partners(alone, -1, 4, 5, -1, 1, 2);
    }

    private static void termsOfAdds() {
        DUE.by("Terms 2a", "ADDS of a GLOVE: VALUE of THE BEST PAIRING of all, less that without it.");
        Run x = row(10, 20, 30);
        x.is(0, "adds", 0);
        x.is(50, "adds", 1);
        x.is(20, "adds", 2);
        Run four = row(1, 9, 9, 1);
        four.text("pair a*b");
        four.is(1, "adds", 0);
        four.is(73, "adds", 1);
        row(7).is(0, "adds", 0);
    }

    private static void toldPartners() {
        DUE.by("Terms 2a", "LEAVES by a SHEET: places k of it that are numbers tell partners of GLOVES k");
        Run x = row(40, 30, 60, 80);
        x.row(1, 0, 1, 0, 3, 2);
        x.is(NONE, "leaves", 1);
        x.row(1, 1, 1, 0, 3, 2);
        x.is(NONE, "leaves", 1);
        x.row(1, 1, 1, 0, 3, NONE);
        x.is(3, "leaves", 1);
        x.row(1, 1, 1, 0, NONE, 2);
        x.is(3, "leaves", 1);
        x.row(1, 0, 1, 0, 3);
        x.is(3, "leaves", 1);
        x.row(1, 0, 1);
        x.is(1, "leaves", 1);
        x.row(1, 0, 1, 0, 3, 2, 5, 4);
        x.is(NONE, "leaves", 1);
        DUE.by("Terms 2a", "(both must tell each other, and be a PAIR; else they have none)");
        x.row(1, 0, 1, 0, 3, 0);
        x.is(3, "leaves", 1);
        x.row(1, 0, 1, 0, 0, 2);
        x.is(3, "leaves", 1);
        x.row(1, 0, 1, 0, 4, 2);
        x.is(3, "leaves", 1);
        x.row(1, 0, 1, 0, -1, -32768);
        x.is(3, "leaves", 1);
        x.row(1, 0, 1, 0, 32767, 10);
        x.is(3, "leaves", 1);
        x.row(1, 1, 1, 0, -99999, 99999);
        x.is(3, "leaves", 1);
        x.row(1, 0, 2, 1, 0, 3);
        x.is(1, "leaves", 1);
        Run lost = row(10, 20, 30);
        lost.row(0, 0, 1, 0, 9);
        lost.is(102, "leaves", 0);
        lost.call("set", 0, 5, 1);
        lost.call("set", 2, 3, 0);
        lost.is(102, "leaves", 0);
        gone();
    }

    /** A glove that was there before the way back is no partner any more. */
    private static void gone() {
        Run x = row(40, 30, 60, 80);
        x.call("keep");
        x.call("glove", 0, 0, 5, 99);
        x.call("glove", 0, 1, 5, 99);
        x.row(1, 0, 5, 2, 1, 9, 9, 0);
        x.is(104, "leaves", 1);
        x.call("back");
        x.is(3, "leaves", 1);
        x.call("glove", 0, 1, 5, 99);
        x.row(1, 0, 4, 2, 1, 9, 0);
        x.is(203, "leaves", 1);
        x.call("back");
        x.is(3, "leaves", 1);
    }

    private static void firstTwo() {
        DUE.by("Terms 2a", "the first two, by the lesser and then the other,");
        Run x = row(40, 30, 60, 80);
        x.row(1, 0);
        x.is(1, "leaves", 1);
        x.row(1, 0, 1, 0);
        x.is(3, "leaves", 1);
        x.row(1, 0, 3, 2, 1, 0);
        x.is(203, "leaves", 1);
        Run ten = sides(0, 0, 0, 0, 0, 0, 0, 0, 0, 1);
        ten.row(1, 0);
        ten.is(9, "leaves", 1);
        ten.row(1, 0, 9, 9, 9, 9, 9, 9, 9, 9, 9, 0);
        ten.is(NONE, "leaves", 1);
        ten.call("set", 8, 3, 6);
        ten.is(809, "leaves", 1);
        ten.call("set", 7, 3, 6);
        ten.is(709, "leaves", 1);
        DUE.by("Terms 2a", "that are a PAIR, are not partners,");
        Run apart = sides(0, 0, 1);
        apart.row(1, 0);
        apart.is(2, "leaves", 1);
        apart.call("set", 0, 5, 1);
        apart.is(102, "leaves", 1);
        apart.row(1, 0, 9, 2, 1);
        apart.is(NONE, "leaves", 1);
        apart.call("set", 1, 5, 1);
        apart.is(NONE, "leaves", 1);
        sidesLeave(1, 0, 0, 1);
    }

    private static void sidesLeave(int due, int... sides) {
        Run x = sides(sides);
        x.call("turns", 0, 4);
        x.row(1, 0);
        x.is(due, "leaves", 1);
    }

    private static void greaterValue() {
        DUE.by("Terms 2a", "and whose VALUE is greater than that of what each of them has (0 without a partner).");
        Run zero = row(0, 0);
        zero.row(1, 0);
        zero.is(NONE, "leaves", 1);
        zero.call("set", 0, 3, 1);
        zero.is(1, "leaves", 1);
        Run second = row(30, 20, 40, 30);
        second.row(1, 0, 3, 9, 9, 0);
        second.is(102, "leaves", 1);
        second.call("set", 2, 3, 30);
        second.row(1, 0, 3, 2, 1, 0);
        second.is(NONE, "leaves", 1);
        Run first = row(40, 30, 60, 80);
        first.row(1, 0, 1, 0, 9, 9);
        first.is(3, "leaves", 1);
        first.call("set", 3, 3, 30);
        first.is(102, "leaves", 1);
        first.call("set", 3, 3, 31);
        first.is(3, "leaves", 1);
    }

    // ---- Promise 11 to 14

    private static void best() {
        DUE.by("Promise 11", "VALUE of THE BEST PAIRING of a set.");
        Run x = row(1, 9, 9, 1);
        x.still(0, "best", 0);
        x.still(0, "best", 1);
        x.still(0, "best", 8);
        x.still(10, "best", 3);
        x.still(0, "best", 5);
        x.still(18, "best", 6);
        x.still(20, "best", 15);
        Run ten = row(1, 2, 4, 8, 16, 32, 64, 99, 99, 99);
        ten.is(0, "best", 512);
        ten.is(100, "best", 513);
        ten.is(424, "best", 1023);
        // 0 stays over beside the four rights: 4 + 16 + 64 + 99 and 2 + 8 + 32 + 99
        ten.is(324, "best", 511);
        DUE.by("Promise 11", "BAD: one is not there.");
        x.refuses(BAD, "best", new int[] {0}, 0, 16, 17, 31, 32, -1, 1 << 10, 1 << 30);
        ten.refuses(BAD, "best", new int[] {0}, 0, 1024, 1025, 2047, -1, -1024);
        new Run(DUE).refuses(BAD, "best", new int[] {0}, 0, 1, 2, -1);
        row(5).still(BAD, "best", 2);
        row(5).still(0, "best", 1);
    }

    private static void partner() {
        DUE.by("Promise 12", "Whom a GLOVE has in THE BEST PAIRING of all.");
        Run x = row(1, 9, 9, 1);
        x.text("pair a*b");
        x.still(3, "partner", 0);
        x.still(2, "partner", 1);
        x.still(1, "partner", 2);
        x.still(0, "partner", 3);
        DUE.by("Promise 12", "BAD;");
        x.refuses(BAD, "partner", new int[] {0}, 0, -1, 4, 10);
        row(1, 1, 1, 1, 1, 1, 1, 1, 1, 1).refuses(BAD, "partner", new int[] {0}, 0, -1, 10);
        new Run(DUE).still(BAD, "partner", 0);
        DUE.by("Promise 12", "NONE: none.");
        row(5).still(NONE, "partner", 0);
        Run odd = row(5, 5, 5);
        odd.still(NONE, "partner", 2);
        odd.call("set", 1, 5, 1);
        odd.still(NONE, "partner", 0);
        odd.still(NONE, "partner", 1);
    }

    private static void adds() {
        DUE.by("Promise 13", "ADDS.");
        Run x = row(10, 20, 30);
        x.still(0, "adds", 0);
        x.still(50, "adds", 1);
        x.still(20, "adds", 2);
        x.call("set", 1, 5, 1);
        x.still(0, "adds", 1);
        x.still(0, "adds", 2);
        Run ten = row(1, 2, 4, 8, 16, 32, 64, 99, 99, 99);
        // without 9 the left of price 1 stays over too, without 0 the right of price 2
        ten.is(100, "adds", 9);
        ten.is(3, "adds", 0);
        DUE.by("Promise 13", "BAD.");
        x.refuses(BAD, "adds", new int[] {0}, 0, -1, 3, 10);
        ten.refuses(BAD, "adds", new int[] {0}, 0, -1, 10);
        new Run(DUE).still(BAD, "adds", 0);
    }

    private static void leaves() {
        DUE.by("Promise 14", "LEAVES by a SHEET: 100 times the one, and the other.");
        Run x = row(40, 30, 60, 80);
        for (int sheet = 0; sheet < 4; sheet++) {
            x.row(sheet, sheet % 2, 3, 9, 9, 9);
            x.still(1, "leaves", sheet);
            x.call("mark", sheet, 3, 0);
            x.still(102, "leaves", sheet);
            x.call("sheet", sheet, -1, 0);
        }
        Run ten = row(1, 1, 1, 1, 1, 1, 1, 1, 2, 2);
        ten.row(0, 0, 1, 0, 3, 2, 5, 4, 7, 6);
        ten.call("set", 8, 2, 9);
        ten.call("set", 9, 2, 9);
        ten.still(809, "leaves", 0);
        DUE.by("Promise 14", "BAD;");
        x.refuses(BAD, "leaves", new int[] {0}, 0, -1, 4);
        DUE.by("Promise 14", "NOTHING;");
        for (int sheet = 0; sheet < 4; sheet++) {
            x.still(TwoGuilds.NOTHING, "leaves", sheet);
        }
        new Run(DUE).still(TwoGuilds.NOTHING, "leaves", 0);
        DUE.by("Promise 14", "NONE: there are none.");
        x.row(2, 0, 1, 0, 3, 2);
        x.still(NONE, "leaves", 2);
        Run empty = new Run(DUE);
        empty.row(0, 0);
        empty.still(NONE, "leaves", 0);
        empty.row(3, 1, 1, 0);
        empty.still(NONE, "leaves", 3);
        Run one = row(99);
        one.row(0, 0);
        one.still(NONE, "leaves", 0);
    }
}
