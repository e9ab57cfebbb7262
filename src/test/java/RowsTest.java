import java.util.Arrays;
import java.util.List;

/** The frame of part 5 of the terms and promises 39 to 43: numbers that wait, images, counts. */
public final class RowsTest {
    private static final Due DUE = new Due();
    private static final int BAD = TwoGuilds.BAD;
    private static final int NO = TwoGuilds.NO;
    private static final int LEAST = Integer.MIN_VALUE;
    private static final int MOST = Integer.MAX_VALUE;

    public static void main(String[] args) {
        imageKeeps();
        imageAgain();
        imageOfTexts();
        daysTold();
        tell();
        check();
        checkFewerDays();
        firstThatIsNot();
        checkRefused();
        keep();
        back();
        count();
        DUE.end(List.of("Terms 5b", "Promise 39", "Promise 40", "Promise 41", "Promise 42", "Promise 43"));
    }

    private static Run two() {
        Run x = new Run(DUE);
        x.call("glove", 0, 0, 5, 10);
        x.call("glove", 0, 1, 5, 20);
        return x;
    }

    /** An object that has something of everything. */
    private static Run rich() {
        Run x = two();
        x.call("seed", 77);
        x.call("loss", 8);
        x.call("days", 4);
        x.call("set", 0, 4, 33);
        x.call("set", 1, 5, 1);
        x.call("worn", 1, 2);
        x.call("worn", 3, 4);
        x.text("fine 5+d");
        x.text("wear 3");
        x.row(0, 0, 1, 2);
        x.row(1, 1, 7, TwoGuilds.NONE);
        x.call("lay", 0, 1, 0);
        x.call("lay", 1, 2, 1);
        x.call("lay", 2, 3, 99);
        return x;
    }

    /** Changes all that an image keeps. */
    private static void changeKept(Run x) {
        x.call("seed", 5);
        x.call("loss", 9);
        x.call("days", 3);
        x.call("deal", 5);
        x.call("turns", 0, 5);
        x.call("set", 0, 1, 1);
        x.call("set", 0, 2, 9);
        x.call("set", 0, 3, 99);
        x.call("set", 0, 4, 99);
        x.call("set", 1, 5, 0);
        x.call("set", 2, 4, 44);
        x.call("set", 2, 5, 1);
        x.call("forget");
        x.call("worn", 2, 2);
        x.call("worn", 0, 0);
        x.call("worn", 4, 4);
        x.text("fine 6");
        x.text("pair 7");
        x.text("wear 8+8");
    }

    /** Changes all that an image does not keep. */
    private static void changeOthers(Run x) {
        x.row(0, 1, 5, 6, 7);
        x.call("sheet", 1, -1, 0);
        x.row(3, 0, 8);
        x.call("lay", 0, 0, 0);
        x.call("lay", 1, 3, 5);
        x.call("lay", 3, 2, 3);
        x.call("tell", 1);
        x.call("tell", 2);
        x.feed("fine 12");
    }

    private static int check(Run x, int n, int... told) {
        for (int v : told) {
            x.call("tell", v);
        }
        return x.call("check", n);
    }

    /** What check answers to these numbers, behind which none wait. */
    private static void checks(int due, Run before, int n, int... told) {
        Run x = before.twin();
        for (int v : told) {
            x.call("tell", v);
        }
        x.leavesAs(before, due, "check", n);
        x.is(0, "count", 6);
    }

    // ---- Terms 5b

    private static void imageKeeps() {
        DUE.by("Terms 5b", "AN IMAGE keeps all but SHEETS, SLOTS, numbers that wait, THE TAPE;");
        Run kept = rich();
        kept.call("keep");
        Run x = kept.twin();
        changeKept(x);
        x.leavesAs(kept, 2, "back");
        Run others = kept.twin();
        changeOthers(others);
        Run both = others.twin();
        changeKept(both);
        // the texts of changeKept use the tape up
        both.feed("fine 12");
        both.leavesAs(others, 2, "back");
    }

    private static void imageAgain() {
        DUE.by("Terms 5b", "all can become as it is (again and again).");
        Run kept = rich();
        kept.call("keep");
        Run x = kept.twin();
        for (int again = 0; again < 4; again++) {
            changeKept(x);
            x.leavesAs(kept, 2, "back");
        }
        x.still(2, "back");
        x.still(2, "back");
        x.call("deal", 1);
        x.is(0, "told", 2, 4);
        x.is(0, "told", 2, 5);
    }

    private static void imageOfTexts() {
        DUE.by("Terms 5b", "all can become as it is (again and again).");
        Run x = new Run(DUE);
        x.text("fine 1");
        x.call("keep");
        x.text("fine 2");
        x.call("back");
        x.feed("wear 3");
        x.is(1, "text");
        x.is(1, "fine");
        x.is(1, "textTold", 1, 0);
        x.call("glove", 0, 0, 0, 0);
        x.call("loss", 0);
        x.call("days", 1);
        x.is(3, "told", 0, 4);
        x.call("keep");
        for (int i = 2; i < 14; i++) {
            x.text("fine 1+1");
        }
        x.text("pair 1+2+3");
        x.is(2, "textTold", 13, 1);
        x.is(1, "back");
        x.is(1, "textTold", 0, 1);
        x.is(1, "textTold", 1, 1);
        x.is(BAD, "textTold", 2, 1);
        x.is(0, "why", 2);
        x.is(1, "why", 1);
        x.is(TwoGuilds.NONE, "why", 0);
        x.is(1, "fine");
    }

    private static void daysTold() {
        DUE.by("Terms 5b", "THE DAYS TOLD: of n DAYS, one behind the other, by THE IMAGE:");
        Run x = two();
        x.call("keep");
        Run kept = x.twin();
        x.call("days", 9);
        x.call("glove", 0, 0, 1, 1);
        x.call("loss", 100);
        x.text("wear 20");
        checks(0, x, 2, 1, 1, 1, 2);
        x.call("keep");
        checks(0, x, 1, 3, 0);
        // draws by 100: 54 32, 56 3 (LOST); 87 36; 50 46; 68 29
        DUE.by("Terms 5b", "how many are LOST;");
        checks(0, kept, 4, 1, 1, 1, 2, 1, 2, 1, 4);
        checks(3, kept, 4, 1, 1, 0, 2, 1, 2, 1, 4);
        Run lost = two();
        lost.call("set", 0, 5, 1);
        lost.call("set", 0, 4, 50);
        lost.call("loss", 0);
        lost.text("wear 20");
        lost.call("keep");
        checks(0, lost, 2, 1, 20, 1, 40);
        DUE.by("Terms 5b", "WEAR of all that are not LOST, together, behind each.");
        Run worn = two();
        worn.call("loss", 0);
        worn.text("wear 20");
        worn.call("set", 1, 4, 70);
        worn.call("keep");
        checks(0, worn, 3, 0, 110, 0, 139, 0, 159);
        checks(2, worn, 3, 0, 70, 0, 110, 0, 139);
        Run all = two();
        all.call("loss", 100);
        all.text("wear 20");
        all.call("keep");
        checks(0, all, 2, 2, 0, 2, 0);
        Run none = new Run(DUE);
        none.call("keep");
        checks(0, none, 2, 0, 0, 0, 0);
    }

    // ---- Promise 39 to 43

    private static void tell() {
        DUE.by("Promise 39", "One more number waits: how many.");
        Run x = new Run(DUE);
        int[] odd = {LEAST, MOST, 0, BAD, -1, 1};
        for (int i = 1; i <= 60; i++) {
            x.is(i, "tell", odd[i % 6]);
            x.is(i, "count", 6);
        }
        DUE.by("Promise 39", "FULL: 60 wait.");
        for (int v : odd) {
            x.still(TwoGuilds.FULL, "tell", v);
        }
        x.call("check", 1);
        x.is(1, "tell", 0);
        Run zeros = new Run(DUE);
        zeros.call("keep");
        for (int i = 0; i < 60; i++) {
            zeros.call("tell", 0);
        }
        zeros.still(TwoGuilds.FULL, "tell", 7);
        zeros.is(0, "check", 30);
    }

    /** Two gloves of which each wears by 20 a day, and none is LOST. */
    private static Run wearing() {
        Run x = two();
        x.call("loss", 0);
        x.text("wear 20");
        x.call("keep");
        return x;
    }

    private static int[] wearingTold(int days) {
        int[] told = new int[2 * days];
        for (int i = 0; i < days; i++) {
            told[2 * i + 1] = 2 * Math.min(99, 20 * (i + 1));
        }
        return told;
    }

    private static void check() {
        DUE.by("Promise 40", "The numbers that wait (none do then, whatever is answered)");
        Run x = wearing();
        DUE.is("all right", check(x, 1, 0, 40), 0);
        x.is(0, "count", 6);
        DUE.is("wrong", check(x, 1, 9, 40), 1);
        x.is(0, "count", 6);
        DUE.is("BAD", check(x, 0, 0, 40), BAD);
        x.is(0, "count", 6);
        Run none = two();
        DUE.is("NO", check(none, 1, 0, 40), NO);
        none.is(0, "count", 6);
        none.is(1, "tell", 5);
        DUE.by("Promise 40", "are THE DAYS TOLD of n (1 .. 30;");
        for (int n : new int[] {1, 2, 29, 30}) {
            checks(0, wearing(), n, wearingTold(n));
        }
        for (int n : new int[] {0, 31, -1, LEAST, MOST}) {
            checks(BAD, wearing(), n, wearingTold(1));
        }
        DUE.by("Promise 40", ", two by two: 0;");
        checks(0, wearing(), 3, 0, 40, 0, 80, 0, 120);
        checks(1, wearing(), 3, 40, 0, 80, 0, 120, 0);
    }

    private static void checkFewerDays() {
        DUE.by("Promise 40", "fewer, if THE DAY would be above 9999)");
        Run x = wearing();
        for (int i = 0; i < 99; i++) {
            x.call("days", 100);
        }
        x.call("days", 69);
        x.is(9969, "count", 2);
        atNewImage(x);
        checks(0, x, 30, wearingTold(30));
        x.call("days", 1);
        atNewImage(x);
        checks(0, x, 30, wearingTold(29));
        checks(59, x, 30, wearingTold(30));
        checks(0, x, 29, wearingTold(29));
        x.call("days", 28);
        x.is(9998, "count", 2);
        atNewImage(x);
        checks(0, x, 1, wearingTold(1));
        checks(0, x, 2, wearingTold(1));
        checks(0, x, 30, wearingTold(1));
        checks(3, x, 2, wearingTold(2));
        x.call("days", 1);
        // now it is the last day, but by THE IMAGE it is the one ahead of it
        checks(0, x, 30, wearingTold(1));
        atNewImage(x);
        checks(0, x, 1);
        checks(0, x, 30);
        checks(1, x, 1, 0);
        checks(BAD, x, 31);
    }

    /** Both gloves are as new, and that is kept. */
    private static void atNewImage(Run x) {
        x.call("set", 0, 4, 0);
        x.call("set", 1, 4, 0);
        x.call("keep");
    }

    private static void firstThatIsNot() {
        DUE.by("Promise 40", "else 1 and how many stand right ahead of the first that is not (or is missing, or one too many).");
        int[] due = wearingTold(30);
        for (int place = 0; place < 60; place++) {
            int[] told = due.clone();
            told[place]++;
            Run x = wearing();
            DUE.is("place " + place + " is not", check(x, 30, told), 1 + place);
            DUE.is("place " + place + " is missing", check(x, 30, Arrays.copyOf(due, place)), 1 + place);
            Run y = wearing();
            int days = place / 2 + 1;
            if (days < 30) {
                DUE.is("place " + 2 * days + " is too many", check(y, days, Arrays.copyOf(due, 2 * days + 1)), 1 + 2 * days);
                DUE.is("all behind " + 2 * days + " are", check(y, days, due), 1 + 2 * days);
            }
        }
        checks(2, wearing(), 3, 0, 41, 9, 80, 0, 120);
        checks(1, wearing(), 1, LEAST, MOST);
        checks(1, wearing(), 30);
    }

    private static void checkRefused() {
        DUE.by("Promise 40", "BAD;");
        for (int n : new int[] {0, 31, -1, LEAST, MOST}) {
            checks(BAD, wearing(), n, wearingTold(30));
            checks(BAD, two(), n, 1, 2, 3);
        }
        DUE.by("Promise 40", "NO: there is no IMAGE.");
        for (int n : new int[] {1, 30}) {
            checks(NO, two(), n, wearingTold(30));
            checks(NO, two(), n);
        }
    }

    private static void keep() {
        DUE.by("Promise 41", "AN IMAGE is kept: how many GLOVES.");
        Run x = new Run(DUE);
        x.is(0, "keep");
        x.is(0, "back");
        x.call("deal", 3);
        x.is(3, "keep");
        x.still(3, "keep");
        x.call("deal", 10);
        x.is(3, "back");
        x.is(3, "count", 0);
        x.call("deal", 10);
        x.is(10, "keep");
        x.call("loss", 77);
        x.is(10, "back");
        x.is(5, "count", 3);
    }

    private static void back() {
        DUE.by("Promise 42", "All is as THE IMAGE: how many GLOVES.");
        Run x = rich();
        x.is(2, "keep");
        int z = x.call("count", 8);
        changeKept(x);
        changeOthers(x);
        x.is(2, "back");
        int[] counts = {2, 1, 4, 8, 2, 2, 2, 7, z};
        for (int what = 0; what <= 8; what++) {
            x.is(counts[what], "count", what);
        }
        x.told(0, 0, 0, 5, 10, 33, 0, 10);
        x.is(1, "told", 1, 5);
        x.is(2, "sure", 1);
        x.is(4, "sure", 3);
        x.is(6, "joins");
        x.is(9, "fine");
        x.is(0, "why", 2);
        x.rowIs(0, 5, 6, 7);
        x.is(0, "lay", 0, 0, 0);
        x.is(3, "lay", 1, 0, 0);
        Run empty = new Run(DUE);
        empty.call("keep");
        empty.call("deal", 10);
        empty.is(0, "back");
        empty.is(0, "count", 0);
        empty.is(1, "count", 8);
        DUE.by("Promise 42", "NO: there is none.");
        new Run(DUE).still(NO, "back");
        rich().still(NO, "back");
    }

    private static void count() {
        DUE.by("Promise 43", "How many: 0 GLOVES, 1 LOST, 2 THE DAY, 3 LOSS, 4 WORN, 5 TEXTS, 6 numbers that wait, 7 bytes of THE TAPE, 8 z.");
        Run x = two();
        x.call("set", 1, 5, 1);
        x.call("loss", 77);
        x.call("set", 0, 5, 1);
        x.call("glove", 0, 0, 0, 0);
        x.call("days", 8);
        x.call("set", 0, 5, 0);
        x.call("seed", -9);
        for (int i = 0; i < 4; i++) {
            x.call("worn", 0, 0);
        }
        x.text("pair 1");
        for (int i = 0; i < 6; i++) {
            x.call("tell", 0);
        }
        x.call("feed", 1, 1, 1);
        int lost = x.call("told", 0, 5) + x.call("told", 1, 5) + x.call("told", 2, 5);
        int[] due = {3, lost, 8, 77, 4, 1, 6, 12, -9};
        for (int what = 0; what <= 8; what++) {
            x.still(due[what], "count", what);
        }
        Run full = new Run(DUE);
        full.call("deal", 10);
        full.call("loss", 100);
        full.call("days", 100);
        full.call("seed", LEAST);
        int[] most = {10, 10, 100, 100, 0, 0, 0, 0, LEAST};
        for (int what = 0; what <= 8; what++) {
            full.still(most[what], "count", what);
        }
        DUE.by("Promise 43", "BAD.");
        x.refuses(BAD, "count", new int[] {0}, 0, -1, 9);
    }
}
