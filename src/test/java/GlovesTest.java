/** Promises 1 to 10: a new object, gloves and what they are. */
public final class GlovesTest {
    private static final Due DUE = new Due();

    public static void main(String[] args) {
        newObject();
        glove();
        told();
        as();
        turns();
        set();
        fits();
        value();
        deal();
        seed();
        DUE.end();
    }

    private static void newObject() {
        TwoGuilds x = new TwoGuilds();
        int[] counts = {0, 0, 0, 5, 0, 0, 0, 0, 1};
        for (int what = 0; what < counts.length; what++) {
            DUE.is("1: count(" + what + ")", x.count(what), counts[what]);
        }
        for (int i = 0; i < 4; i++) {
            DUE.is("1: sheet " + i, x.reads(i), TwoGuilds.NOTHING);
        }
        for (int i = 0; i < 5; i++) {
            DUE.is("1: slot " + i, x.rest(i, 1), TwoGuilds.NOTHING);
        }
        for (int key = 0; key < 3; key++) {
            DUE.is("1: why(" + key + ")", x.why(key), TwoGuilds.NONE);
        }
        DUE.is("1: back()", x.back(), TwoGuilds.NO);
        TwoGuilds other = new TwoGuilds();
        x.glove(0, 0, 0, 0);
        DUE.is("1: objects share nothing", other.count(0), 0);
    }

    private static void glove() {
        TwoGuilds x = new TwoGuilds();
        int[][] wrong = {{-1, 0, 0, 0}, {6, 0, 0, 0}, {0, -1, 0, 0}, {0, 2, 0, 0}, {0, 0, -1, 0}, {0, 0, 10, 0}, {0, 0, 0, -1}, {0, 0, 0, 100}};
        for (int[] w : wrong) {
            DUE.is("2: wrong glove", x.glove(w[0], w[1], w[2], w[3]), TwoGuilds.BAD);
        }
        DUE.is("2: none came", x.count(0), 0);
        DUE.is("2: edges below", x.glove(0, 0, 0, 0), 0);
        DUE.is("2: edges above", x.glove(5, 1, 9, 99), 1);
        for (int i = 2; i < 10; i++) {
            DUE.is("2: glove " + i, x.glove(1, 0, 5, i), i);
        }
        DUE.is("2: the eleventh", x.glove(1, 0, 5, 5), TwoGuilds.FULL);
        DUE.is("2: BAD ahead of FULL", x.glove(6, 0, 5, 5), TwoGuilds.BAD);
        DUE.is("2: ten", x.count(0), 10);
    }

    private static void told() {
        TwoGuilds x = new TwoGuilds();
        int[] worth = {40, 45, 59, 90, 56, 8};
        for (int kind = 0; kind < 6; kind++) {
            x.glove(kind, kind % 2, kind + 2, 40);
            int[] all = {kind, kind % 2, kind + 2, 40, 0, 0, worth[kind]};
            for (int what = 0; what < 7; what++) {
                DUE.is("3: told(" + kind + ", " + what + ")", x.told(kind, what), all[what]);
            }
        }
        x.set(4, 3, 99);
        DUE.is("3: WORTH of a dear forged one", x.told(4, 6), -3);
        DUE.is("3: what", x.told(0, 7), TwoGuilds.BAD);
        DUE.is("3: what", x.told(0, -1), TwoGuilds.BAD);
        DUE.is("3: glove", x.told(6, 0), TwoGuilds.BAD);
        DUE.is("3: glove", x.told(-1, 0), TwoGuilds.BAD);
    }

    private static void as() {
        TwoGuilds x = new TwoGuilds();
        String[] of = {"0", "01", "02", "013", "024", "05"};
        for (int glove = 0; glove < 6; glove++) {
            x.glove(glove, 0, 5, 10 + glove);
            for (int kind = 0; kind < 6; kind++) {
                boolean is = of[glove].indexOf('0' + kind) >= 0;
                DUE.is("4: as(" + glove + ", " + kind + ")", x.as(glove, kind), is ? 10 + glove : TwoGuilds.KIND);
            }
        }
        DUE.is("4: glove", x.as(6, 0), TwoGuilds.BAD);
        DUE.is("4: glove", x.as(-1, 0), TwoGuilds.BAD);
        DUE.is("4: kind", x.as(0, 6), TwoGuilds.BAD);
        DUE.is("4: kind", x.as(0, -1), TwoGuilds.BAD);
    }

    private static void turns() {
        TwoGuilds x = new TwoGuilds();
        x.glove(3, 1, 4, 20);
        x.set(0, 4, 7);
        x.set(0, 5, 1);
        DUE.is("5: what it was", x.turns(0, 5), 3);
        DUE.is("5: the same once more", x.turns(0, 5), 5);
        int[] all = {5, 1, 4, 20, 7, 1, 8};
        for (int what = 0; what < 7; what++) {
            DUE.is("5: told(0, " + what + ")", x.told(0, what), all[what]);
        }
        DUE.is("5: glove", x.turns(1, 0), TwoGuilds.BAD);
        DUE.is("5: glove", x.turns(-1, 0), TwoGuilds.BAD);
        DUE.is("5: kind", x.turns(0, 6), TwoGuilds.BAD);
        DUE.is("5: kind", x.turns(0, -1), TwoGuilds.BAD);
        DUE.is("5: nothing changed", x.told(0, 0), 5);
    }

    private static void set() {
        TwoGuilds x = new TwoGuilds();
        x.glove(0, 0, 0, 0);
        int[] most = {0, 1, 9, 99, 99, 1};
        for (int what = 1; what < 6; what++) {
            DUE.is("6: up", x.set(0, what, most[what]), 0);
            DUE.is("6: above", x.set(0, what, most[what] + 1), TwoGuilds.BAD);
            DUE.is("6: below", x.set(0, what, -1), TwoGuilds.BAD);
            DUE.is("6: stands", x.told(0, what), most[what]);
        }
        for (int what = 1; what < 6; what++) {
            DUE.is("6: down", x.set(0, what, 0), most[what]);
        }
        DUE.is("6: what", x.set(0, 0, 0), TwoGuilds.BAD);
        DUE.is("6: what", x.set(0, 6, 0), TwoGuilds.BAD);
        DUE.is("6: glove", x.set(1, 1, 0), TwoGuilds.BAD);
        DUE.is("6: glove", x.set(-1, 1, 0), TwoGuilds.BAD);
    }

    /** Two gloves, the first of a kind. */
    private static TwoGuilds two(int kind, int size, int price, int otherKind, int otherSize, int otherPrice) {
        TwoGuilds x = new TwoGuilds();
        x.glove(kind, 0, size, price);
        x.glove(otherKind, 1, otherSize, otherPrice);
        return x;
    }

    private static void fits() {
        DUE.is("7: GLOVE alike", two(0, 5, 1, 5, 5, 1).fits(0, 1), 1);
        DUE.is("7: GLOVE unlike", two(0, 5, 1, 5, 6, 1).fits(0, 1), 0);
        for (int kind : new int[] {1, 3}) {
            TwoGuilds x = two(kind, 5, 1, 5, 5, 1);
            DUE.is("7: LINED alike", x.fits(0, 1), 1);
            x.set(0, 4, 49);
            x.set(1, 4, 49);
            DUE.is("7: LINED, worn below 50", x.fits(0, 1), 1);
            x.set(0, 4, 50);
            DUE.is("7: LINED, itself worn", x.fits(0, 1), 0);
            x.set(0, 4, 0);
            x.set(1, 4, 50);
            DUE.is("7: LINED, the other one worn", x.fits(0, 1), 0);
            DUE.is("7: LINED unlike", two(kind, 5, 1, 5, 4, 1).fits(0, 1), 0);
        }
        DUE.is("7: LINED and prices", two(1, 5, 99, 5, 5, 0).fits(0, 1), 1);
        DUE.is("7: FURRED, half", two(3, 5, 91, 5, 5, 45).fits(0, 1), 1);
        DUE.is("7: FURRED, less than half", two(3, 5, 91, 5, 5, 44).fits(0, 1), 0);
        for (int kind : new int[] {2, 4}) {
            DUE.is("7: LOOSE, 1 above", two(kind, 5, 1, 5, 6, 1).fits(0, 1), 1);
            DUE.is("7: LOOSE, 1 below", two(kind, 5, 1, 5, 4, 1).fits(0, 1), 1);
            DUE.is("7: LOOSE, 2 above", two(kind, 5, 1, 5, 7, 1).fits(0, 1), 0);
            DUE.is("7: LOOSE, 2 below", two(kind, 5, 1, 5, 3, 1).fits(0, 1), 0);
        }
        DUE.is("7: FORGED and FORGED", two(4, 5, 1, 4, 5, 1).fits(0, 1), 0);
        DUE.is("7: FORGED and LOOSE", two(4, 5, 1, 2, 5, 1).fits(0, 1), 1);
        DUE.is("7: LOOSE and FORGED", two(2, 5, 1, 4, 5, 1).fits(0, 1), 1);
        DUE.is("7: MITTEN", two(5, 0, 1, 0, 9, 1).fits(0, 1), 1);
        TwoGuilds x = two(0, 5, 1, 0, 5, 1);
        x.set(0, 5, 1);
        x.set(0, 1, 1);
        DUE.is("7: LOST and of one side fit too", x.fits(0, 1), 1);
        DUE.is("7: itself", x.fits(1, 1), TwoGuilds.BAD);
        DUE.is("7: one", x.fits(2, 1), TwoGuilds.BAD);
        DUE.is("7: other", x.fits(1, -1), TwoGuilds.BAD);
    }

    private static void value() {
        TwoGuilds x = two(0, 5, 40, 0, 5, 30);
        DUE.is("8: PRICES", x.value(0, 1), 70);
        x.set(0, 4, 9);
        x.set(1, 4, 10);
        DUE.is("8: less a tenth of both WEARS together", x.value(1, 0), 69);
        x.set(1, 4, 11);
        DUE.is("8: less a tenth", x.value(0, 1), 68);
        x.set(0, 3, 0);
        x.set(1, 3, 1);
        DUE.is("8: 0 at least", x.value(0, 1), 0);
        x.set(1, 1, 0);
        DUE.is("8: one side", x.value(0, 1), TwoGuilds.NONE);
        x.turns(1, 4);
        DUE.is("8: one side, FORGED", x.value(0, 1), 0);
        DUE.is("8: one side, FORGED first", x.value(1, 0), 0);
        x.set(0, 5, 1);
        DUE.is("8: LOST", x.value(0, 1), TwoGuilds.NONE);
        DUE.is("8: LOST", x.value(1, 0), TwoGuilds.NONE);
        DUE.is("8: both must fit", two(0, 5, 1, 5, 6, 1).value(1, 0), TwoGuilds.NONE);
        DUE.is("8: itself", x.value(0, 0), TwoGuilds.BAD);
        DUE.is("8: glove", x.value(0, 2), TwoGuilds.BAD);
        DUE.is("8: glove", x.value(-1, 0), TwoGuilds.BAD);
        TwoGuilds law = two(0, 5, 40, 0, 5, 30);
        law.set(0, 4, 7);
        law.set(1, 4, 8);
        Tapes.text(law, "pair a*4+b*0+w");
        DUE.is("8: the lesser PRICE and WEARS", law.value(0, 1), 135);
        DUE.is("8: in either order", law.value(1, 0), 135);
        Tapes.text(law, "pair b*20");
        DUE.is("8: the greater PRICE", law.value(0, 1), 800);
        Tapes.text(law, "pair b*25");
        DUE.is("8: 999 at most", law.value(0, 1), 999);
        Tapes.text(law, "pair a-b");
        DUE.is("8: 0 at least by law", law.value(0, 1), 0);
    }

    private static void deal() {
        TwoGuilds x = new TwoGuilds();
        DUE.is("9: n", x.deal(0), TwoGuilds.BAD);
        DUE.is("9: n", x.deal(11), TwoGuilds.BAD);
        DUE.is("9: came", x.deal(3), 3);
        int[][] due = {{2, 0, 6, 3, 0, 0}, {1, 0, 0, 46, 0, 0}, {4, 1, 4, 96, 0, 0}};
        for (int glove = 0; glove < 3; glove++) {
            for (int what = 0; what < 6; what++) {
                DUE.is("9: told(" + glove + ", " + what + ")", x.told(glove, what), due[glove][what]);
            }
        }
        DUE.is("9: z", x.count(8), 836760821);
        DUE.is("9: as many as there is room for", x.deal(10), 7);
        int z = x.count(8);
        DUE.is("9: no room", x.deal(1), 0);
        DUE.is("9: no draws", x.count(8), z);
        TwoGuilds y = new TwoGuilds();
        y.deal(10);
        DUE.is("9: ten at once draw as much", y.count(8), z);
    }

    private static void seed() {
        TwoGuilds x = new TwoGuilds();
        DUE.is("10: at first", x.seed(Integer.MIN_VALUE), 1);
        DUE.is("10: then", x.seed(7), Integer.MIN_VALUE);
        x.deal(1);
        DUE.is("10: the draws go by it", x.told(0, 3), 93);
        DUE.is("10: z", x.count(8), 1486001571);
    }
}
