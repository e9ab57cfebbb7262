/** Promises 11 to 14: the best pairing, and who would leave a told one. */
public final class TableTest {
    private static final Due DUE = new Due();

    public static void main(String[] args) {
        best();
        partner();
        adds();
        leaves();
        leavesByEachSheet();
        leavesBesideGlovesThatWere();
        DUE.end();
    }

    /** Gloves of one size and sides by turns, left first. */
    private static TwoGuilds row(int... prices) {
        TwoGuilds x = new TwoGuilds();
        for (int i = 0; i < prices.length; i++) {
            x.glove(0, i % 2, 5, prices[i]);
        }
        return x;
    }

    private static void best() {
        TwoGuilds x = row(1, 9, 9, 1);
        DUE.is("11: nobody", x.best(0), 0);
        DUE.is("11: one", x.best(1), 0);
        DUE.is("11: two", x.best(3), 10);
        DUE.is("11: two of one side", x.best(5), 0);
        DUE.is("11: all", x.best(15), 20);
        Tapes.text(x, "pair a*b");
        DUE.is("11: all by law", x.best(15), 82);
        DUE.is("11: three by law", x.best(7), 81);
        DUE.is("11: one is not there", x.best(16), TwoGuilds.BAD);
        DUE.is("11: one is not there", x.best(31), TwoGuilds.BAD);
        DUE.is("11: below 0", x.best(-1), TwoGuilds.BAD);
        DUE.is("11: below 0", x.best(Integer.MIN_VALUE), TwoGuilds.BAD);
        DUE.is("11: no gloves", new TwoGuilds().best(1), TwoGuilds.BAD);
        x.set(1, 5, 1);
        DUE.is("11: without one that is LOST", x.best(15), 9);
        TwoGuilds ten = row(99, 99, 99, 99, 99, 99, 99, 99, 99, 99);
        DUE.is("11: ten", ten.best(1023), 990);
        Tapes.text(ten, "pair 9999");
        DUE.is("11: ten by law", ten.best(1023), 4995);
        DUE.is("11: an odd set", ten.best(511), 3996);
        TwoGuilds forged = row(10, 10, 10);
        forged.set(1, 5, 1);
        forged.turns(2, 4);
        DUE.is("11: a pair of one side", forged.best(5), 20);
    }

    private static void partners(String what, TwoGuilds x, int... due) {
        for (int i = 0; i < due.length; i++) {
            DUE.is(what + " of " + i, x.partner(i), due[i] < 0 ? TwoGuilds.NONE : due[i]);
        }
    }

    private static void partner() {
        partners("12: equals, the least first", row(5, 5, 5, 5), 1, 0, 3, 2);
        partners("12: of VALUE 0 too", row(0, 0, 0, 0, 0), 1, 0, 3, 2, -1);
        TwoGuilds x = row(1, 9, 9, 1);
        Tapes.text(x, "pair a*b");
        partners("12: the greatest VALUE ahead of the least", x, 3, 2, 1, 0);
        TwoGuilds y = row(5, 5, 5, 5, 5);
        y.set(0, 1, 1);
        y.set(1, 1, 1);
        y.set(3, 1, 0);
        // rights 0 and 1; lefts 2, 3 and 4
        partners("12: none comes behind all numbers", y, 2, 3, 0, 1, -1);
        y.set(2, 3, 4);
        partners("12: a lesser VALUE stays over", y, 3, 4, -1, 0, 1);
        y.set(3, 5, 1);
        partners("12: LOST", y, 2, 4, 0, -1, 1);
        DUE.is("12: glove", y.partner(5), TwoGuilds.BAD);
        DUE.is("12: glove", y.partner(-1), TwoGuilds.BAD);
    }

    private static void adds() {
        TwoGuilds x = row(10, 20, 30);
        DUE.is("13: stays over", x.adds(0), 0);
        DUE.is("13: the only right one", x.adds(1), 50);
        DUE.is("13: more than the other one", x.adds(2), 20);
        x.set(1, 5, 1);
        DUE.is("13: no pairs", x.adds(2), 0);
        DUE.is("13: glove", x.adds(3), TwoGuilds.BAD);
        DUE.is("13: glove", x.adds(-1), TwoGuilds.BAD);
    }

    private static void tells(TwoGuilds x, int sort, int... partners) {
        x.sheet(1, sort, partners.length);
        for (int i = 0; i < partners.length; i++) {
            x.mark(1, i, partners[i]);
        }
    }

    private static void leaves() {
        TwoGuilds x = row(40, 30, 60, 80);
        DUE.is("14: sheet", x.leaves(4), TwoGuilds.BAD);
        DUE.is("14: sheet", x.leaves(-1), TwoGuilds.BAD);
        DUE.is("14: MISSING", x.leaves(1), TwoGuilds.NOTHING);
        tells(x, 0);
        DUE.is("14: all without partners", x.leaves(1), 1);
        tells(x, 0, 1, 0, 3, 2);
        DUE.is("14: none", x.leaves(1), TwoGuilds.NONE);
        tells(x, 1, 3, 2, 1, 0);
        DUE.is("14: both would have more", x.leaves(1), 203);
        tells(x, 0, 1, 0, 3, 0);
        DUE.is("14: not told by both", x.leaves(1), 3);
        tells(x, 1, 1, 0, 3, TwoGuilds.NONE);
        DUE.is("14: NO NUMBER tells nobody", x.leaves(1), 3);
        tells(x, 0, 1, 0, 3);
        DUE.is("14: a place too few", x.leaves(1), 3);
        tells(x, 0, 2, 1, 0, 99);
        DUE.is("14: no PAIR, oneself, no GLOVE", x.leaves(1), 1);
        tells(x, 0, 1, 0, -1, -32768);
        DUE.is("14: below 0", x.leaves(1), 3);
        tells(x, 0, 1, 0, 3, 2, 5, 4);
        DUE.is("14: places beyond GLOVES", x.leaves(1), TwoGuilds.NONE);
        x.set(3, 3, 30);
        tells(x, 0, 1, 0, 3, 2);
        DUE.is("14: as much is not more", x.leaves(1), TwoGuilds.NONE);
        TwoGuilds zero = row(0, 0);
        tells(zero, 0);
        DUE.is("14: VALUE 0 is not more", zero.leaves(1), TwoGuilds.NONE);
        DUE.is("14: no gloves", emptyLeaves(), TwoGuilds.NONE);
        TwoGuilds one = row(1, 0);
        tells(one, 0);
        DUE.is("14: VALUE 1 is more than none", one.leaves(1), 1);
        TwoGuilds alike = row(30, 20, 40, 30);
        tells(alike, 0, 3, 9, 9, 0);
        DUE.is("14: as much is not more for the first", alike.leaves(1), 102);
        alike.set(2, 3, 30);
        tells(alike, 0, 3, 2, 1, 0);
        DUE.is("14: as much is not more for the second", alike.leaves(1), TwoGuilds.NONE);
    }

    private static void leavesByEachSheet() {
        TwoGuilds x = row(40, 30, 60, 80);
        for (int sheet = 0; sheet < 4; sheet++) {
            x.sheet(sheet, 0, 4);
            x.mark(sheet, 0, 3);
            DUE.is("14: sheet " + sheet, x.leaves(sheet), 102);
            x.sheet(sheet, -1, 0);
        }
    }

    private static void leavesBesideGlovesThatWere() {
        TwoGuilds x = row(40, 30, 60, 80);
        x.keep();
        x.glove(0, 0, 5, 99);
        x.glove(0, 1, 5, 99);
        tells(x, 0, 5, 2, 1, 9, 9, 0);
        DUE.is("14: all six", x.leaves(1), 104);
        x.back();
        DUE.is("14: one that is gone is no partner", x.leaves(1), 3);
    }

    private static int emptyLeaves() {
        TwoGuilds x = new TwoGuilds();
        tells(x, 0, 1, 0);
        return x.leaves(1);
    }
}
