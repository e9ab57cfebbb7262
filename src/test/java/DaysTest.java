/** Promises 15 to 19: days, thought ones too, and the fine. */
public final class DaysTest {
    private static final Due DUE = new Due();

    public static void main(String[] args) {
        loss();
        days();
        wearByLaw();
        lastDay();
        behind();
        keepHome();
        fine();
        DUE.end();
    }

    private static TwoGuilds three() {
        TwoGuilds x = new TwoGuilds();
        x.glove(0, 0, 5, 10);
        x.glove(0, 1, 5, 20);
        x.glove(0, 1, 5, 50);
        return x;
    }

    private static void loss() {
        TwoGuilds x = new TwoGuilds();
        DUE.is("15: at first", x.loss(0), 5);
        DUE.is("15: then", x.loss(100), 0);
        DUE.is("15: above", x.loss(101), TwoGuilds.BAD);
        DUE.is("15: below", x.loss(-1), TwoGuilds.BAD);
        DUE.is("15: stands", x.count(3), 100);
        // draws of z = 1: the rest by 100 of the second is 32
        int[] losses = {32, 33};
        for (int i = 0; i < 2; i++) {
            TwoGuilds y = new TwoGuilds();
            y.glove(0, 0, 5, 1);
            y.loss(losses[i]);
            DUE.is("15: LOST below LOSS " + losses[i], y.days(1), i);
        }
    }

    private static void days() {
        TwoGuilds x = three();
        DUE.is("16: n", x.days(0), TwoGuilds.BAD);
        DUE.is("16: n", x.days(101), TwoGuilds.BAD);
        // draws by 100: 54 32, 56 3 (LOST), 87 36; then 50 46, 68 29; 94 96, ..
        DUE.is("16: LOST in a day", x.days(1), 1);
        int[] wear = {1, 1, 1};
        for (int i = 0; i < 3; i++) {
            DUE.is("16: WEAR of " + i, x.told(i, 4), wear[i]);
            DUE.is("16: LOST " + i, x.told(i, 5), i == 1 ? 1 : 0);
        }
        DUE.is("16: z", x.count(8), -1778682749);
        DUE.is("16: LOST in the next one", x.days(1), 0);
        DUE.is("16: no WEAR by 0", x.told(0, 4), 1);
        DUE.is("16: what is LOST wears no more", x.told(1, 4), 1);
        DUE.is("16: 8 is 2 more", x.told(2, 4), 3);
        DUE.is("16: THE DAY", x.count(2), 2);
        x.loss(0);
        DUE.is("16: a hundred", x.days(100), 0);
        DUE.is("16: a hundred more", x.days(100), 0);
        DUE.is("16: 99 at most", x.told(0, 4), 99);
        x.loss(100);
        DUE.is("16: all others", x.days(100), 2);
        DUE.is("16: days go on without them", x.count(2), 302);
    }

    private static void wearByLaw() {
        String[] texts = {"wear x", "wear p", "wear 0-x", "wear 21", "wear p/10+x"};
        int[] due = {4, 17, 0, 20, 5};
        for (int i = 0; i < texts.length; i++) {
            TwoGuilds x = new TwoGuilds();
            x.glove(0, 0, 5, 17);
            Tapes.text(x, texts[i]);
            x.loss(0);
            x.days(1);
            DUE.is("16: " + texts[i], x.told(0, 4), due[i]);
        }
    }

    private static void lastDay() {
        TwoGuilds x = new TwoGuilds();
        x.glove(0, 0, 5, 17);
        x.loss(0);
        for (int i = 0; i < 99; i++) {
            x.days(100);
        }
        x.days(90);
        DUE.is("16: 9990 days", x.count(2), 9990);
        int z = x.count(8);
        DUE.is("16: no more than up to 9999", x.days(100), 0);
        DUE.is("16: THE DAY", x.count(2), 9999);
        TwoGuilds nine = new TwoGuilds();
        nine.seed(z);
        nine.glove(0, 0, 5, 17);
        nine.loss(0);
        nine.days(9);
        DUE.is("16: draws of nine days alone", x.count(8), nine.count(8));
        x.set(0, 4, 0);
        DUE.is("16: no day more", x.days(1), 0);
        DUE.is("16: no WEAR more", x.told(0, 4), 0);
        DUE.is("16: no draws more", x.count(8), nine.count(8));
        x.loss(100);
        DUE.is("17: thought days have no bound", x.behind(1, 1), 1);
        x.keep();
        DUE.is("40: no days by THE IMAGE", x.check(30), 0);
        x.tell(0);
        DUE.is("40: one too many", x.check(30), 1);
    }

    private static void behind() {
        TwoGuilds x = three();
        DUE.is("17: now", x.behind(0, 0), 60);
        DUE.is("17: VALUE", x.behind(1, 0), 60);
        DUE.is("17: LOST", x.behind(1, 1), 1);
        DUE.is("17: WEAR without LOST", x.behind(1, 2), 2);
        DUE.is("17: WEAR", x.behind(2, 2), 4);
        DUE.is("17: z stays", x.count(8), 1);
        DUE.is("17: THE DAY stays", x.count(2), 0);
        DUE.is("17: LOST stays", x.count(1), 0);
        DUE.is("17: WEAR stays", x.behind(0, 2), 0);
        x.loss(100);
        DUE.is("17: all LOST", x.behind(100, 1), 3);
        DUE.is("17: no VALUE", x.behind(100, 0), 0);
        DUE.is("17: no WEAR", x.behind(100, 2), 0);
        DUE.is("17: n", x.behind(-1, 0), TwoGuilds.BAD);
        DUE.is("17: n", x.behind(101, 0), TwoGuilds.BAD);
        DUE.is("17: what", x.behind(0, -1), TwoGuilds.BAD);
        DUE.is("17: what", x.behind(0, 3), TwoGuilds.BAD);
        DUE.is("17: no gloves", new TwoGuilds().behind(9, 0), 0);
    }

    private static void keepHome() {
        TwoGuilds x = three();
        // whoever draws second is LOST: 2 at home saves the dearest, as 1 is LOST then
        DUE.is("18: KEEP", x.keepHome(1), 2);
        DUE.is("18: nothing changes", x.count(8), 1);
        DUE.is("18: nothing changes", x.count(1), 0);
        x.loss(100);
        DUE.is("18: equals, the least", x.keepHome(30), 0);
        x.loss(0);
        Tapes.text(x, "pair 100-w");
        Tapes.text(x, "wear 10");
        x.set(2, 4, 40);
        DUE.is("18: WEAR of 0 and 1 counts alone", x.keepHome(1), 0);
        Tapes.text(x, "wear p/10");
        DUE.is("18: 1 wears more than 0", x.keepHome(1), 1);
        DUE.is("18: n", x.keepHome(0), TwoGuilds.BAD);
        DUE.is("18: n", x.keepHome(31), TwoGuilds.BAD);
        DUE.is("18: no gloves", new TwoGuilds().keepHome(1), TwoGuilds.NONE);
        DUE.is("18: BAD ahead of NONE", new TwoGuilds().keepHome(0), TwoGuilds.BAD);
    }

    private static void fine() {
        TwoGuilds x = three();
        DUE.is("19: none LOST", x.fine(), 0);
        x.set(1, 5, 1);
        x.set(2, 5, 1);
        DUE.is("19: how many are LOST", x.fine(), 2);
        x.days(7);
        int lost = x.count(1);
        Tapes.text(x, "fine d*100+l");
        DUE.is("19: by law", x.fine(), 700 + lost);
        Tapes.text(x, "fine 0-5000");
        DUE.is("19: not held", x.fine(), -5000);
    }
}
