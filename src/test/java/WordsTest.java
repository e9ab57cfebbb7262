/** Promises 20 to 24: words and their joins. */
public final class WordsTest {
    private static final Due DUE = new Due();

    public static void main(String[] args) {
        worn();
        forget();
        joins();
        sure();
        better();
        DUE.end();
    }

    private static void worn() {
        TwoGuilds x = new TwoGuilds();
        int[][] wrong = {{-1, 0}, {5, 0}, {0, -1}, {0, 5}};
        for (int[] w : wrong) {
            DUE.is("20: wrong", x.worn(w[0], w[1]), TwoGuilds.BAD);
        }
        DUE.is("20: none came", x.count(4), 0);
        for (int i = 1; i <= 10; i++) {
            DUE.is("20: alike ones", x.worn(4, 4), i);
        }
        DUE.is("20: one more", x.worn(0, 0), TwoGuilds.FULL);
        DUE.is("20: BAD ahead of FULL", x.worn(0, 5), TwoGuilds.BAD);
        DUE.is("20: ten", x.count(4), 10);
        DUE.is("20: joins by them", x.joins(), 24);
    }

    private static void forget() {
        TwoGuilds x = new TwoGuilds();
        DUE.is("21: none", x.forget(), 0);
        x.worn(0, 0);
        x.worn(1, 1);
        DUE.is("21: two", x.forget(), 2);
        DUE.is("21: none then", x.count(4), 0);
        DUE.is("21: all joins hold", x.joins(), 120);
        DUE.is("21: one more", x.worn(0, 1), 1);
        DUE.is("21: what was is no more", x.sure(0), 1);
    }

    private static void joins() {
        TwoGuilds x = new TwoGuilds();
        int[] due = {24, 6, 2, 1, 1};
        for (int i = 0; i < 5; i++) {
            x.worn(i, 4 - i);
            DUE.is("22: joins by " + (i + 1), x.joins(), due[i]);
        }
        x.forget();
        x.worn(0, 0);
        x.worn(1, 0);
        DUE.is("22: no two the same", x.joins(), 0);
        x.forget();
        x.worn(0, 0);
        x.worn(0, 1);
        DUE.is("22: one gives one", x.joins(), 0);
    }

    private static void sure() {
        TwoGuilds x = new TwoGuilds();
        DUE.is("23: left", x.sure(-1), TwoGuilds.BAD);
        DUE.is("23: left", x.sure(5), TwoGuilds.BAD);
        DUE.is("23: not sure", x.sure(0), TwoGuilds.NONE);
        x.worn(0, 3);
        x.worn(2, 4);
        x.worn(4, 0);
        DUE.is("23: told", x.sure(2), 4);
        DUE.is("23: told", x.sure(4), 0);
        DUE.is("23: two are left", x.sure(1), TwoGuilds.NONE);
        x.worn(3, 2);
        DUE.is("23: one is left", x.sure(1), 1);
        x.worn(3, 1);
        DUE.is("23: none HOLDS", x.sure(0), TwoGuilds.NONE);
    }

    private static void better() {
        TwoGuilds x = new TwoGuilds();
        DUE.is("24: what", x.better(-1), TwoGuilds.BAD);
        DUE.is("24: what", x.better(2), TwoGuilds.BAD);
        DUE.is("24: the least of equals", x.better(0), 0);
        DUE.is("24: at worst", x.better(1), 24);
        x.worn(0, 0);
        DUE.is("24: the next one", x.better(0), 1);
        x.worn(1, 3);
        DUE.is("24: what is told tells nothing more", x.better(0), 2);
        DUE.is("24: at worst", x.better(1), 2);
        x.worn(2, 2);
        x.worn(3, 4);
        DUE.is("24: one join", x.better(0), 0);
        DUE.is("24: one join", x.better(1), 1);
        x.worn(4, 4);
        DUE.is("24: none HOLDS", x.better(0), TwoGuilds.NONE);
        DUE.is("24: none HOLDS", x.better(1), TwoGuilds.NONE);
        DUE.is("24: BAD ahead of NONE", x.better(2), TwoGuilds.BAD);
    }
}
