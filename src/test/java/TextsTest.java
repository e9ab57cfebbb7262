/** Promises 25 to 29: the tape and texts. */
public final class TextsTest {
    private static final Due DUE = new Due();

    public static void main(String[] args) {
        feed();
        trim();
        faults();
        standing();
        given();
        room();
        textTold();
        why();
        DUE.end();
    }

    private static void feed() {
        TwoGuilds x = new TwoGuilds();
        for (int i = 1; i <= 8; i++) {
            DUE.is("25: feed", x.feed(0, -1, i), 12 * i);
        }
        DUE.is("25: no more", x.feed(0, 0, 0), TwoGuilds.FULL);
        DUE.is("25: stands", x.count(7), 96);
        x.trim(85);
        DUE.is("25: 97 would be too many", x.feed(0, 0, 0), TwoGuilds.FULL);
        x.trim(84);
        DUE.is("25: 96 are not", x.feed(0, 0, 0), 96);
        x.trim(0);
        // "fine", " 12+", "30  "
        x.feed(0x66696e65, 0x2031322b, 0x33302020);
        DUE.is("25: the highest byte first", x.text(), 0);
        DUE.is("25: in their order", x.fine(), 42);
    }

    private static void trim() {
        TwoGuilds x = new TwoGuilds();
        DUE.is("26: nothing", x.trim(0), 0);
        DUE.is("26: more than there are", x.trim(1), TwoGuilds.BAD);
        DUE.is("26: below 0", x.trim(-1), TwoGuilds.BAD);
        x.feed(1, 2, 3);
        DUE.is("26: more than there are", x.trim(13), TwoGuilds.BAD);
        DUE.is("26: all", x.trim(12), 12);
        DUE.is("26: some", x.trim(5), 5);
        DUE.is("26: stands", x.count(7), 5);
        DUE.is("26: what went is gone", x.trim(6), TwoGuilds.BAD);
    }

    private static void fault(String text, int place) {
        TwoGuilds x = new TwoGuilds();
        DUE.is("27: '" + text + "'", Tapes.text(x, text), -100 - place);
        DUE.is("27: no text", x.count(5), 0);
        DUE.is("27: the tape is used up", x.count(7), 0);
    }

    private static void stands(String text) {
        TwoGuilds x = new TwoGuilds();
        DUE.is("27: '" + text + "'", Tapes.text(x, text), 0);
        DUE.is("27: a text", x.count(5), 1);
        DUE.is("27: the tape is used up", x.count(7), 0);
    }

    private static void faults() {
        fault("", 0);
        fault("   ", 3);
        fault("pair", 4);
        fault("pair  ", 6);
        fault("  pai 1", 2);
        fault("pairs 1", 0);
        fault("Pair 1", 0);
        fault("hair 1", 0);
        fault("pain 1", 0);
        fault("pairz 1", 0);
        fault("pair9", 4);
        fault("1 pair", 0);
        fault("pair1", 4);
        fault("pair a b", 7);
        fault("pair ab", 5);
        fault("pair 1a", 6);
        fault("pair a1", 6);
        fault("pair 1 2", 7);
        fault("pair x", 5);
        fault("wear a", 5);
        fault("wear d", 5);
        fault("fine w", 5);
        fault("pair pair", 5);
        fault("pair A", 5);
        fault("pair 12345", 5);
        fault("pair 1+00000", 7);
        fault("pair 1 12345", 7);
        fault("pair +1", 5);
        fault("pair -1", 5);
        fault("pair 1+", 7);
        fault("pair 1+ ", 8);
        fault("pair 1+*2", 7);
        fault("pair 1<2<3", 8);
        fault("pair 1=2>3", 8);
        fault("pair 1|2&3<4=5", 12);
        fault("pair 1<=2", 7);
        fault("pair 1&&2", 7);
        fault("pair 1!", 6);
        fault("pair !", 6);
        fault("pair ()", 6);
        fault("pair (1", 7);
        fault("pair (1))", 8);
        fault("pair 1)", 6);
        fault("pair (1 2)", 8);
        fault("pair 1(2)", 6);
        fault("pair (1<2)<3<4", 12);
        fault("pair 1\t", 6);
        fault("pair\n1", 4);
        fault("pair " + (char) 0, 5);
        fault("pair 1+" + (char) 225, 7);
        fault("pair 1.5", 6);
        fault("pair ((((((((((", 13);
        fault("pair !!!!!!!!!1", 13);
        fault("pair !!!!(!!!!(!1", 15);
        fault("pair ((((((((1)))))))+((1", 25);
        fault("pair ((((((((1)))))))+((((((((1", 29);
        fault("pair ((((((((1))))))))+(((((((((", 31);
        fault("fine " + "d+".repeat(45) + ")", 95);
        fault("fine " + "d+".repeat(45) + "(", 96);
    }

    private static void standing() {
        stands("pair a");
        stands("  pair   a  ");
        stands("pair(a)");
        stands("pair!a");
        stands("pair 0");
        stands("pair 0000");
        stands("pair 9999");
        stands("pair 1 + 2");
        stands("wear x*p");
        stands("fine d-l");
        stands("pair a<b&b<w|!a");
        stands("pair a+1<b+2&3=4|5>6");
        stands("pair (1<2)<(3<4)");
        stands("pair ((((((((a))))))))");
        stands("pair !!!!!!!!a");
        stands("pair !(!(!(!(!(!(!(!(a))))))))");
        stands("pair ((((((((1))))))))+((((((((2))))))))");
        stands("pair !!!!!!!!1+!!!!!!!!2");
        stands("pair (!!!!!!!!1)*!!!!!!!!2");
        stands("fine " + "d+".repeat(45) + "l");
    }

    private static void gives(String e, int due) {
        TwoGuilds x = new TwoGuilds();
        x.glove(0, 0, 0, 0);
        x.set(0, 5, 1);
        x.days(7);
        Tapes.text(x, "fine " + e);
        DUE.is("27: " + e, x.fine(), due);
    }

    /** THE DAY is 7 and one is LOST. */
    private static void given() {
        gives("d", 7);
        gives("l", 1);
        gives("0012", 12);
        gives("2+3*4", 14);
        gives("(2+3)*4", 20);
        gives("9-3-2", 4);
        gives("9-(3-2)", 8);
        gives("48/4/2", 6);
        gives("48/(4/2)", 24);
        gives("7/2*2", 6);
        gives("(0-7)/2", -3);
        gives("7/(0-2)", -3);
        gives("7/0", 0);
        gives("7/(d-7)+1", 1);
        gives("2<3", 1);
        gives("3<3", 0);
        gives("3=3", 1);
        gives("2=3", 0);
        gives("3>2", 1);
        gives("3>3", 0);
        gives("1+1<1*3", 1);
        gives("1<2+5", 1);
        gives("(2<3)+5", 6);
        gives("5&7", 1);
        gives("5&0", 0);
        gives("1&1", 1);
        gives("0&5", 0);
        gives("9|0", 1);
        gives("0|9", 1);
        gives("0|0", 0);
        gives("1|1&0", 1);
        gives("(1|1)&0", 0);
        gives("0&0|1", 1);
        gives("2&1=1", 1);
        gives("!7", 0);
        gives("!0", 1);
        gives("!!7", 1);
        gives("!0*5", 5);
        gives("!(0*5)", 1);
        gives("!0+!0", 2);
        gives("(0-3)|0", 1);
        gives("9999*9999*9999", 9999 * 9999 * 9999);
        gives("8192*8192*32", Integer.MIN_VALUE);
        gives("8192*8192*32-1", Integer.MAX_VALUE);
        gives("8192*8192*32/(0-1)", Integer.MIN_VALUE);
        gives("1+(2+(3+(4+(5+(6+(7+(8+9)))))))", 45);
    }

    private static void room() {
        TwoGuilds x = new TwoGuilds();
        for (int i = 0; i < 14; i++) {
            DUE.is("27: numbers", Tapes.text(x, "fine " + i), i);
        }
        DUE.is("27: one more", Tapes.text(x, "fine 14"), TwoGuilds.FULL);
        DUE.is("27: the tape is used up", x.count(7), 0);
        DUE.is("27: a FAULT ahead of FULL", Tapes.text(x, "fine 14+"), -108);
        DUE.is("27: fourteen", x.count(5), 14);
        DUE.is("27: the last one counts", x.fine(), 13);
    }

    private static void textTold() {
        TwoGuilds x = new TwoGuilds();
        DUE.is("28: none", x.textTold(0, 0), TwoGuilds.BAD);
        Tapes.text(x, "wear x*(x+10)-!p");
        Tapes.text(x, "pair 1");
        Tapes.text(x, "fine d&l");
        int[][] due = {{1, 4}, {0, 1}, {2, 2}};
        for (int text = 0; text < 3; text++) {
            for (int what = 0; what < 2; what++) {
                DUE.is("28: textTold(" + text + ", " + what + ")", x.textTold(text, what), due[text][what]);
            }
        }
        DUE.is("28: text", x.textTold(3, 0), TwoGuilds.BAD);
        DUE.is("28: text", x.textTold(-1, 0), TwoGuilds.BAD);
        DUE.is("28: what", x.textTold(0, 2), TwoGuilds.BAD);
        DUE.is("28: what", x.textTold(0, -1), TwoGuilds.BAD);
    }

    private static void why() {
        TwoGuilds x = new TwoGuilds();
        DUE.is("29: key", x.why(-1), TwoGuilds.BAD);
        DUE.is("29: key", x.why(3), TwoGuilds.BAD);
        DUE.is("29: none", x.why(2), TwoGuilds.NONE);
        Tapes.text(x, "fine 1");
        Tapes.text(x, "wear 1");
        Tapes.text(x, "fine 2");
        Tapes.text(x, "fine 2 2");
        DUE.is("29: none of a key", x.why(0), TwoGuilds.NONE);
        DUE.is("29: one", x.why(1), 1);
        DUE.is("29: told last", x.why(2), 2);
        DUE.is("29: counts", x.fine(), 2);
        DUE.is("27: a text behind one with a FAULT", Tapes.text(x, "pair 3"), 3);
        DUE.is("29: counts", x.why(0), 3);
    }
}
