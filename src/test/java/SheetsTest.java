/** Promises 30 to 38: sheets and slots. */
public final class SheetsTest {
    private static final Due DUE = new Due();

    public static void main(String[] args) {
        sheet();
        mark();
        pour();
        reads();
        copy();
        copyRefused();
        lay();
        ask();
        item();
        rest();
        DUE.end();
    }

    /** A place of a sheet, by way of slot 4. */
    private static int place(TwoGuilds x, int sheet, int place) {
        x.lay(4, 2, sheet);
        return x.item(4, place);
    }

    private static TwoGuilds with(int sheet, int sort, int... places) {
        TwoGuilds x = new TwoGuilds();
        put(x, sheet, sort, places);
        return x;
    }

    private static void put(TwoGuilds x, int sheet, int sort, int... places) {
        x.sheet(sheet, sort, places.length);
        for (int i = 0; i < places.length; i++) {
            x.mark(sheet, i, places[i]);
        }
    }

    private static void places(String what, TwoGuilds x, int sheet, int... due) {
        for (int i = 0; i < due.length; i++) {
            DUE.is(what + ", place " + i, place(x, sheet, i), due[i]);
        }
        DUE.is(what + ", no more places", place(x, sheet, due.length), TwoGuilds.INDEX);
    }

    private static void sheet() {
        TwoGuilds x = with(0, 1, 5, TwoGuilds.NONE, 7);
        DUE.is("30: sheet", x.sheet(-1, 0, 1), TwoGuilds.BAD);
        DUE.is("30: sheet", x.sheet(4, 0, 1), TwoGuilds.BAD);
        DUE.is("30: sort", x.sheet(0, -2, 1), TwoGuilds.BAD);
        DUE.is("30: sort", x.sheet(0, 2, 1), TwoGuilds.BAD);
        DUE.is("30: n", x.sheet(0, 0, 25), TwoGuilds.BAD);
        DUE.is("30: SIZE", x.sheet(0, 0, -1), TwoGuilds.SIZE);
        DUE.is("30: SIZE", x.sheet(0, 1, Integer.MIN_VALUE), TwoGuilds.SIZE);
        DUE.is("30: BAD ahead of SIZE", x.sheet(4, 0, -1), TwoGuilds.BAD);
        DUE.is("30: BAD ahead of SIZE", x.sheet(0, 2, -1), TwoGuilds.BAD);
        places("30: refused, nothing changes", x, 0, 5, TwoGuilds.KIND, 7);
        DUE.is("30: anew", x.sheet(0, 1, 3), 3);
        places("30: all 0", x, 0, 0, 0, 0);
        DUE.is("30: no places", x.sheet(3, 0, 0), 0);
        DUE.is("30: is not MISSING", x.reads(3), TwoGuilds.NONE);
        DUE.is("30: 24 places", x.sheet(3, 1, 24), 24);
        DUE.is("30: the last one", x.mark(3, 23, 1), 1);
        DUE.is("30: MISSING", x.sheet(3, -1, 25), 0);
        DUE.is("30: MISSING once more", x.sheet(3, -1, -1), 0);
        DUE.is("30: is MISSING", x.reads(3), TwoGuilds.NOTHING);
    }

    private static void mark() {
        TwoGuilds x = new TwoGuilds();
        x.sheet(0, 0, 4);
        x.sheet(1, 1, 4);
        DUE.is("31: sheet", x.mark(4, 0, 0), TwoGuilds.BAD);
        DUE.is("31: sheet", x.mark(-1, 0, 0), TwoGuilds.BAD);
        DUE.is("31: MISSING", x.mark(2, 9, 0), TwoGuilds.NOTHING);
        for (int sheet = 0; sheet < 2; sheet++) {
            DUE.is("31: INDEX", x.mark(sheet, 4, TwoGuilds.NONE), TwoGuilds.INDEX);
            DUE.is("31: INDEX", x.mark(sheet, -1, 1000000), TwoGuilds.INDEX);
        }
        DUE.is("31: NONE of shorts", x.mark(0, 0, TwoGuilds.NONE), TwoGuilds.KIND);
        int[] shorts = {32768, -32769, 65535, 0x12345678};
        for (int i = 0; i < 4; i++) {
            DUE.is("31: a short", x.mark(0, i, shorts[i]), 1);
        }
        places("31: the lowest 16 bits", x, 0, -32768, 32767, -1, 0x5678);
        DUE.is("31: a float", x.mark(1, 0, 99999), 1);
        DUE.is("31: a float", x.mark(1, 1, -99999), 1);
        DUE.is("31: NO NUMBER", x.mark(1, 2, TwoGuilds.NONE), 1);
        DUE.is("31: too much", x.mark(1, 0, 100000), TwoGuilds.BAD);
        DUE.is("31: too little", x.mark(1, 1, -100000), TwoGuilds.BAD);
        places("31: floats", x, 1, 99999, -99999, TwoGuilds.KIND, 0);
        DUE.is("31: a number again", x.mark(1, 2, 8), 1);
        DUE.is("31: is one", place(x, 1, 2), 8);
    }

    private static void pour() {
        TwoGuilds x = with(0, 1, 50, TwoGuilds.NONE, -7, 100, 40);
        DUE.is("32: sheet", x.pour(4), TwoGuilds.BAD);
        DUE.is("32: sheet", x.pour(-1), TwoGuilds.BAD);
        DUE.is("32: MISSING", x.pour(1), TwoGuilds.NOTHING);
        DUE.is("32: no gloves", x.pour(0), 0);
        for (int i = 0; i < 6; i++) {
            x.glove(0, 0, 5, 40);
        }
        x.set(0, 5, 1);
        DUE.is("32: how many are otherwise", x.pour(0), 3);
        int[] due = {50, 40, 0, 99, 40, 40};
        for (int i = 0; i < 6; i++) {
            DUE.is("32: PRICE of " + i, x.told(i, 3), due[i]);
        }
        DUE.is("32: none then", x.pour(0), 0);
        put(x, 3, 0, 51);
        DUE.is("32: the last sheet", x.pour(3), 1);
    }

    private static void reads() {
        TwoGuilds x = with(0, 1, 0, TwoGuilds.NONE, 30);
        DUE.is("33: sheet", x.reads(4), TwoGuilds.BAD);
        DUE.is("33: sheet", x.reads(-1), TwoGuilds.BAD);
        DUE.is("33: MISSING", x.reads(1), TwoGuilds.NOTHING);
        DUE.is("33: no GLOVE there", x.reads(0), 0);
        x.glove(0, 0, 5, 1);
        DUE.is("33: a GLOVE, NO NUMBER, no GLOVE", x.reads(0), 2);
        x.glove(0, 0, 5, 1);
        x.glove(0, 0, 5, 1);
        x.set(1, 4, 9);
        DUE.is("33: another WEAR", x.reads(0), 2);
        x.set(2, 4, 30);
        DUE.is("33: none", x.reads(0), TwoGuilds.NONE);
        x.mark(0, 1, 8);
        DUE.is("33: another WEAR", x.reads(0), 1);
        x.sheet(0, 0, 1);
        DUE.is("33: a short sheet", x.reads(0), TwoGuilds.NONE);
    }

    private static void copy() {
        TwoGuilds x = with(0, 1, 1, TwoGuilds.NONE, 3, 4);
        x.sheet(1, 1, 3);
        DUE.is("34: to another one", x.copy(0, 1, 1, 0, 2), 2);
        places("34: to another one", x, 1, TwoGuilds.KIND, 3, 0);
        DUE.is("34: a number over NO NUMBER", x.copy(0, 3, 1, 0, 1), 1);
        places("34: a number over NO NUMBER", x, 1, 4, 3, 0);
        DUE.is("34: in itself, up", x.copy(0, 0, 0, 1, 3), 3);
        places("34: in itself, up", x, 0, 1, 1, TwoGuilds.KIND, 3);
        DUE.is("34: in itself, down", x.copy(0, 1, 0, 0, 3), 3);
        places("34: in itself, down", x, 0, 1, TwoGuilds.KIND, 3, 3);
        DUE.is("34: none", x.copy(0, 4, 1, 3, 0), 0);
        put(x, 2, 0, 7, 8);
        put(x, 3, 0, 9, 9, 9);
        DUE.is("34: shorts", x.copy(2, 0, 3, 1, 2), 2);
        places("34: shorts", x, 3, 9, 7, 8);
    }

    private static void copyRefused() {
        TwoGuilds x = with(0, 1, 1, 2, 3, 4);
        put(x, 1, 1, 5, 6);
        put(x, 2, 0, 7, 8);
        DUE.is("34: from", x.copy(-1, 0, 0, 0, 1), TwoGuilds.BAD);
        DUE.is("34: from", x.copy(4, 0, 0, 0, 1), TwoGuilds.BAD);
        DUE.is("34: to", x.copy(3, 0, -1, 0, 1), TwoGuilds.BAD);
        DUE.is("34: to", x.copy(3, 0, 4, 0, 1), TwoGuilds.BAD);
        DUE.is("34: from MISSING", x.copy(3, 9, 0, 0, 1), TwoGuilds.NOTHING);
        DUE.is("34: to MISSING", x.copy(2, 9, 3, 0, 1), TwoGuilds.NOTHING);
        DUE.is("34: two sorts", x.copy(2, 9, 0, 0, 1), TwoGuilds.KIND);
        DUE.is("34: two sorts, none", x.copy(0, 0, 2, 0, 0), TwoGuilds.KIND);
        int[][] none = {{-1, 0, 1}, {0, -1, 1}, {0, 0, -1}, {3, 0, 2}, {0, 1, 2}, {0, 0, 3}, {5, 0, 0}, {0, 3, 0},
            {1, 0, Integer.MAX_VALUE}, {Integer.MAX_VALUE, 0, 1}, {0, Integer.MAX_VALUE, 1}, {0, 0, Integer.MIN_VALUE}};
        for (int[] n : none) {
            DUE.is("34: no such place", x.copy(0, n[0], 1, n[1], n[2]), TwoGuilds.INDEX);
        }
        places("34: nothing changes", x, 0, 1, 2, 3, 4);
        places("34: nothing changes", x, 1, 5, 6);
    }

    private static void lay() {
        TwoGuilds x = with(1, 0, 4, 5);
        x.glove(3, 0, 5, 20);
        DUE.is("35: slot", x.lay(-1, 0, 0), TwoGuilds.BAD);
        DUE.is("35: slot", x.lay(5, 0, 0), TwoGuilds.BAD);
        DUE.is("35: thing", x.lay(0, -1, 0), TwoGuilds.BAD);
        DUE.is("35: thing", x.lay(0, 4, 0), TwoGuilds.BAD);
        DUE.is("35: GLOVE", x.lay(0, 1, 1), TwoGuilds.BAD);
        DUE.is("35: GLOVE", x.lay(0, 1, -1), TwoGuilds.BAD);
        DUE.is("35: SHEET", x.lay(0, 2, 4), TwoGuilds.BAD);
        DUE.is("35: SHEET", x.lay(0, 2, -1), TwoGuilds.BAD);
        DUE.is("35: MISSING", x.lay(0, 2, 0), TwoGuilds.NOTHING);
        DUE.is("35: held nothing", x.lay(0, 3, Integer.MIN_VALUE), 0);
        DUE.is("35: refused, nothing changes", x.lay(0, 2, 3), TwoGuilds.NOTHING);
        DUE.is("35: the number", x.rest(0, 1000), Integer.MIN_VALUE % 1000);
        DUE.is("35: held a number", x.lay(0, 1, 0), 3);
        DUE.is("35: held a GLOVE", x.lay(0, 2, 1), 1);
        DUE.is("35: held a SHEET", x.lay(0, 0, 99), 2);
        DUE.is("35: holds nothing", x.lay(0, 0, -99), 0);
        x.lay(1, 1, 0);
        x.lay(2, 2, 1);
        x.lay(4, 2, 1);
        x.set(0, 3, 99);
        x.turns(0, 5);
        x.mark(1, 0, 9);
        DUE.is("35: a GLOVE as it was", x.ask(1, 3), 50);
        DUE.is("35: a SHEET as it was", x.item(2, 0), 4);
        x.sheet(1, -1, 0);
        DUE.is("35: a row of its own", x.item(2, 1), 5);
        DUE.is("35: slots are by themselves", x.item(4, 1), 5);
    }

    private static void ask() {
        TwoGuilds x = with(0, 0, 1);
        x.glove(3, 0, 5, 20);
        x.glove(4, 0, 5, 20);
        x.lay(0, 1, 0);
        x.lay(1, 1, 1);
        x.lay(2, 2, 0);
        x.lay(3, 3, 5);
        DUE.is("36: slot", x.ask(-1, 0), TwoGuilds.BAD);
        DUE.is("36: slot", x.ask(5, 0), TwoGuilds.BAD);
        DUE.is("36: kind", x.ask(4, -1), TwoGuilds.BAD);
        DUE.is("36: kind", x.ask(4, 6), TwoGuilds.BAD);
        DUE.is("36: nothing", x.ask(4, 0), TwoGuilds.NOTHING);
        DUE.is("36: a SHEET", x.ask(2, 0), TwoGuilds.KIND);
        DUE.is("36: a number", x.ask(3, 0), TwoGuilds.KIND);
        int no = TwoGuilds.KIND;
        int[] furred = {50, 50, no, 50, no, no};
        int[] forged = {76, no, 76, no, 76, no};
        for (int kind = 0; kind < 6; kind++) {
            DUE.is("36: FURRED for " + kind, x.ask(0, kind), furred[kind]);
            DUE.is("36: FORGED for " + kind, x.ask(1, kind), forged[kind]);
        }
    }

    private static void item() {
        TwoGuilds x = with(0, 1, 4, TwoGuilds.NONE);
        x.glove(0, 0, 0, 0);
        x.lay(0, 2, 0);
        x.lay(1, 1, 0);
        x.lay(2, 3, 0);
        DUE.is("37: slot", x.item(-1, 0), TwoGuilds.BAD);
        DUE.is("37: slot", x.item(5, 0), TwoGuilds.BAD);
        DUE.is("37: nothing", x.item(3, 9), TwoGuilds.NOTHING);
        DUE.is("37: a GLOVE", x.item(1, 9), TwoGuilds.KIND);
        DUE.is("37: a number", x.item(2, 9), TwoGuilds.KIND);
        DUE.is("37: no such place", x.item(0, 2), TwoGuilds.INDEX);
        DUE.is("37: no such place", x.item(0, -1), TwoGuilds.INDEX);
        DUE.is("37: NO NUMBER", x.item(0, 1), TwoGuilds.KIND);
        DUE.is("37: a number", x.item(0, 0), 4);
    }

    private static void rest() {
        TwoGuilds x = with(0, 0, 1);
        x.glove(0, 0, 0, 0);
        x.lay(0, 3, -11);
        x.lay(1, 1, 0);
        x.lay(2, 2, 0);
        x.lay(3, 3, Integer.MIN_VALUE);
        DUE.is("38: slot", x.rest(-1, 0), TwoGuilds.BAD);
        DUE.is("38: slot", x.rest(5, 0), TwoGuilds.BAD);
        DUE.is("38: nothing", x.rest(4, 0), TwoGuilds.NOTHING);
        DUE.is("38: a GLOVE", x.rest(1, 0), TwoGuilds.KIND);
        DUE.is("38: a SHEET", x.rest(2, 0), TwoGuilds.KIND);
        DUE.is("38: by 0", x.rest(0, 0), TwoGuilds.NO);
        DUE.is("38: by 4", x.rest(0, 4), -3);
        DUE.is("38: by -4", x.rest(0, -4), -3);
        DUE.is("38: the least by -1", x.rest(3, -1), 0);
    }
}
