/** Promises 39 to 43: numbers that wait, images, counts. */
public final class RowsTest {
    private static final Due DUE = new Due();

    public static void main(String[] args) {
        tell();
        check();
        checkByImage();
        keep();
        back();
        textsOfImages();
        count();
        DUE.end();
    }

    private static void tell() {
        TwoGuilds x = new TwoGuilds();
        for (int i = 1; i <= 60; i++) {
            DUE.is("39: one more", x.tell(Integer.MIN_VALUE), i);
        }
        DUE.is("39: too many", x.tell(0), TwoGuilds.FULL);
        DUE.is("39: sixty", x.count(6), 60);
    }

    private static TwoGuilds two() {
        TwoGuilds x = new TwoGuilds();
        x.glove(0, 0, 5, 10);
        x.glove(0, 1, 5, 20);
        return x;
    }

    private static int check(TwoGuilds x, int n, int... told) {
        for (int v : told) {
            x.tell(v);
        }
        int answer = x.check(n);
        DUE.is("40: none wait", x.count(6), 0);
        return answer;
    }

    private static void check() {
        TwoGuilds x = two();
        DUE.is("40: no IMAGE", check(x, 1, 1, 1), TwoGuilds.NO);
        DUE.is("40: BAD ahead of NO", check(x, 0, 1, 1), TwoGuilds.BAD);
        x.keep();
        DUE.is("40: n", check(x, 31, 1, 1), TwoGuilds.BAD);
        DUE.is("40: n", check(x, -1, 1, 1), TwoGuilds.BAD);
        // draws by 100: 54 32, 56 3 (LOST); 87 36; 50 46; 68 29
        DUE.is("40: a day", check(x, 1, 1, 1), 0);
        DUE.is("40: four days", check(x, 4, 1, 1, 1, 2, 1, 2, 1, 4), 0);
        DUE.is("40: the first is not", check(x, 4, 0, 1, 1, 2, 1, 2, 1, 4), 1);
        DUE.is("40: the fourth is not", check(x, 4, 1, 1, 1, 3, 1, 2, 1, 4), 4);
        DUE.is("40: the seventh is not", check(x, 4, 1, 1, 1, 2, 1, 2, 2, 4), 7);
        DUE.is("40: all are missing", check(x, 4), 1);
        DUE.is("40: one is missing", check(x, 4, 1, 1, 1, 2, 1, 2, 1), 8);
        DUE.is("40: two are missing", check(x, 4, 1, 1, 1, 2, 1, 2), 7);
        DUE.is("40: one too many", check(x, 4, 1, 1, 1, 2, 1, 2, 1, 4, 0), 9);
        DUE.is("40: two too many", check(x, 3, 1, 1, 1, 2, 1, 2, 1, 4), 7);
        DUE.is("40: nothing changes", x.count(8), 1);
        DUE.is("40: nothing changes", x.count(2), 0);
        DUE.is("40: nothing changes", x.count(1), 0);
    }

    private static void checkByImage() {
        TwoGuilds x = two();
        x.keep();
        x.days(9);
        x.glove(0, 0, 1, 1);
        x.loss(100);
        Tapes.text(x, "wear 20");
        DUE.is("40: by THE IMAGE, not by what is now", check(x, 2, 1, 1, 1, 2), 0);
        x.keep();
        DUE.is("40: by the last IMAGE and its laws", check(x, 1, 3, 0), 0);
        TwoGuilds law = two();
        law.loss(0);
        Tapes.text(law, "wear 20");
        law.keep();
        DUE.is("40: thirty days", check(law, 30, told(30)), 0);
    }

    private static int[] told(int days) {
        int[] told = new int[2 * days];
        for (int i = 0; i < days; i++) {
            told[2 * i + 1] = 2 * Math.min(99, 20 * (i + 1));
        }
        return told;
    }

    private static void keep() {
        TwoGuilds x = new TwoGuilds();
        DUE.is("41: none", x.keep(), 0);
        DUE.is("41: an IMAGE of none", x.back(), 0);
        x.deal(3);
        DUE.is("41: three", x.keep(), 3);
        x.deal(3);
        DUE.is("41: the last one counts", x.back(), 3);
        DUE.is("41: nothing changes", x.count(0), 3);
    }

    private static void back() {
        TwoGuilds x = two();
        DUE.is("42: no IMAGE", x.back(), TwoGuilds.NO);
        x.seed(77);
        x.loss(8);
        x.days(4);
        x.set(0, 4, 33);
        x.set(1, 5, 1);
        x.worn(1, 2);
        x.worn(3, 4);
        Tapes.text(x, "fine 5");
        x.keep();
        int z = x.count(8);
        for (int again = 0; again < 2; again++) {
            x.seed(5);
            x.loss(9);
            x.days(3);
            x.deal(5);
            x.turns(0, 5);
            x.set(0, 1, 1);
            x.set(0, 2, 9);
            x.set(0, 3, 99);
            x.set(0, 4, 99);
            x.set(1, 5, 0);
            x.forget();
            x.worn(2, 2);
            x.worn(0, 0);
            x.worn(4, 4);
            x.sheet(0, 0, 3);
            x.lay(0, 3, 9);
            Tapes.text(x, "fine 6");
            x.set(2, 4, 44);
            x.set(2, 5, 1);
            x.tell(1);
            x.feed(0, 0, 0);
            DUE.is("42: back", x.back(), 2);
            int[] counts = {2, 1, 4, 8, 2, 1, again + 1, 12, z};
            for (int what = 0; what < 9; what++) {
                DUE.is("42: count(" + what + ")", x.count(what), counts[what]);
            }
            int[] told = {0, 0, 5, 10, 33, 0};
            for (int what = 0; what < 6; what++) {
                DUE.is("42: told(0, " + what + ")", x.told(0, what), told[what]);
            }
            DUE.is("42: LOST", x.told(1, 5), 1);
            DUE.is("42: WORN", x.sure(1), 2);
            DUE.is("42: WORN", x.sure(3), 4);
            DUE.is("42: WORN", x.joins(), 6);
            DUE.is("42: the law", x.fine(), 5);
            DUE.is("42: its number", x.why(2), 0);
            DUE.is("42: SHEETS stay", x.sheet(0, -1, 0), 0);
            DUE.is("42: SLOTS stay", x.lay(0, 0, 0), 3);
            x.trim(0);
        }
        x.deal(1);
        DUE.is("42: a new GLOVE is a new one", x.told(2, 4), 0);
        DUE.is("42: a new GLOVE is a new one", x.told(2, 5), 0);
    }

    private static void textsOfImages() {
        TwoGuilds x = new TwoGuilds();
        Tapes.text(x, "fine 1");
        x.keep();
        Tapes.text(x, "fine 2");
        x.back();
        DUE.is("42: numbers go on from THE IMAGE", Tapes.text(x, "wear 3"), 1);
        DUE.is("42: fine is of THE IMAGE", x.fine(), 1);
        DUE.is("42: another text of that number", x.textTold(1, 0), 1);
        x.glove(0, 0, 0, 0);
        x.loss(0);
        x.days(1);
        DUE.is("42: that is worked out by itself", x.told(0, 4), 3);
        x.keep();
        for (int i = 2; i < 14; i++) {
            Tapes.text(x, "fine 1+1");
        }
        Tapes.text(x, "pair 1+2+3");
        x.back();
        DUE.is("42: what was kept is whole", x.textTold(0, 1), 1);
        DUE.is("42: what was kept is whole", x.textTold(1, 1), 1);
        DUE.is("42: no more", x.textTold(2, 1), TwoGuilds.BAD);
        DUE.is("42: why", x.why(2), 0);
        DUE.is("42: why", x.why(0), TwoGuilds.NONE);
    }

    private static void count() {
        TwoGuilds x = two();
        x.set(1, 5, 1);
        x.loss(0);
        x.days(3);
        x.seed(9);
        for (int i = 0; i < 4; i++) {
            x.worn(0, 0);
        }
        Tapes.text(x, "pair 1");
        for (int i = 0; i < 6; i++) {
            x.tell(0);
        }
        x.feed(1, 1, 1);
        int[] due = {2, 1, 3, 0, 4, 1, 6, 12, 9};
        for (int what = 0; what < 9; what++) {
            DUE.is("43: count(" + what + ")", x.count(what), due[what]);
        }
        DUE.is("43: what", x.count(9), TwoGuilds.BAD);
        DUE.is("43: what", x.count(-1), TwoGuilds.BAD);
    }
}
