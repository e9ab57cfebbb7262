import java.util.List;

/** Part 4 of the terms and promises 25 to 29: the tape and texts. */
public final class TextsTest {
    private static final Due DUE = new Due();
    private static final int BAD = TwoGuilds.BAD;
    private static final int NONE = TwoGuilds.NONE;
    private static final int FULL = TwoGuilds.FULL;
    private static final int LEAST = Integer.MIN_VALUE;
    private static final int MOST = Integer.MAX_VALUE;

    public static void main(String[] args) {
        textsAndTape();
        keys();
        looseLevels();
        tightLevels();
        pieces();
        names();
        words();
        signs();
        blanks();
        faults();
        numbersTooLong();
        tooManyOpen();
        tooSoon();
        workedOut();
        toldLast();
        feed();
        trim();
        text();
        textTold();
        why();
        DUE.end(List.of("Terms 4a", "Terms 4b", "Promise 25", "Promise 26", "Promise 27", "Promise 28", "Promise 29"));
    }

    /** The tape has a fault there: it is used up, and nothing else changes. */
    private static void fault(String text, int place) {
        Run x = new Run(DUE);
        x.feed(text);
        x.leavesAs(new Run(DUE), -100 - place, "text");
    }

    private static void stands(String text) {
        Run x = new Run(DUE);
        x.feed(text);
        x.is(0, "text");
        x.is(1, "count", 5);
        x.is(0, "count", 7);
    }

    /** THE DAY is 7 and one is LOST. */
    private static void gives(String e, int due) {
        Run x = new Run(DUE);
        x.call("glove", 0, 0, 0, 0);
        x.call("set", 0, 5, 1);
        x.call("days", 7);
        x.feed("fine " + e);
        x.is(0, "text");
        x.is(due, "fine");
    }

    private static Run texts(int many) {
        Run x = new Run(DUE);
        for (int i = 0; i < many; i++) {
            x.text("fine " + i);
        }
        return x;
    }

    // ---- Terms 4a

    private static void textsAndTape() {
        DUE.by("Terms 4a", "TEXTS, 14 at most, numbered from 0,");
        Run x = texts(0);
        for (int i = 0; i < 14; i++) {
            x.feed("fine " + i);
            x.is(i, "text");
            x.is(i + 1, "count", 5);
            x.is(1, "textTold", i, 1);
        }
        x.feed("fine 14");
        x.leavesAs(texts(14), FULL, "text");
        x.is(14, "count", 5);
        x.still(BAD, "textTold", 14, 0);
        DUE.by("Terms 4a", "from THE TAPE (96 bytes at most; an act that reads it uses it up, whatever it answers):");
        String most = "fine " + "d+".repeat(45) + "l";
        stands(most);
        Run full = new Run(DUE);
        full.feed(most);
        full.still(FULL, "feed", 0, 0, 0);
        full.is(0, "text");
        full.is(0, "count", 7);
        full.is(12, "feed", 0, 0, 0);
        full.is(-100, "text");
        full.is(0, "count", 7);
        full.is(-100, "text");
    }

    private static void keys() {
        DUE.by("Terms 4a", "KEY E.");
        stands("pair a");
        fault("a", 0);
        fault("1", 0);
        fault("pair", 4);
        fault("pair pair", 5);
        fault("pair a wear x", 7);
        DUE.by("Terms 4a", "KEY: pair | wear | fine.");
        String[] keys = {"pair", "wear", "fine"};
        for (int key = 0; key < 3; key++) {
            Run x = new Run(DUE);
            x.text(keys[key] + " 1");
            x.is(key, "textTold", 0, 0);
            x.is(0, "why", key);
            for (int i = 0; i < 4; i++) {
                char[] other = keys[key].toCharArray();
                other[i]++;
                fault(new String(other) + " 1", 0);
                other[i] -= 33;
                fault(new String(other) + " 1", 0);
            }
            fault(keys[key] + "s 1", 0);
            fault(keys[key].substring(0, 3) + " 1", 0);
            fault(keys[key].substring(1) + " 1", 0);
        }
        fault("pear 1", 0);
        fault("p air 1", 0);
    }

    private static void looseLevels() {
        DUE.by("Terms 4a", "E, the loosest first: OR: AND { | AND };");
        gives("9|0", 1);
        gives("0|9|0", 1);
        gives("1|1&0", 1);
        gives("(1|1)&0", 0);
        gives("0&0|1", 1);
        gives("5", 5);
        fault("fine 1||2", 7);
        fault("fine |1", 5);
        DUE.by("Terms 4a", "AND: TEST { & TEST };");
        gives("5&7", 1);
        gives("5&7&0", 0);
        gives("2&1=1", 1);
        gives("2=2&3", 1);
        fault("fine 1&&2", 7);
        fault("fine &1", 5);
        DUE.by("Terms 4a", "TEST: SUM [ (< | = | >) SUM ];");
        gives("1+1<1*3", 1);
        gives("1<2+5", 1);
        gives("(2<3)+5", 6);
        gives("2<3-1", 0);
        gives("5-3=2", 1);
        gives("7-1>2+3", 1);
        gives("1<2&3<4", 1);
        stands("fine (1<2)<(3<4)");
        fault("fine 1<2<3", 8);
        fault("fine 1=2>3", 8);
        fault("fine 1>2=3", 8);
        fault("fine 1|2&3<4=5", 12);
        fault("fine (1<2)<3<4", 12);
        fault("fine 1<=2", 7);
        fault("fine <1", 5);
    }

    private static void tightLevels() {
        DUE.by("Terms 4a", "SUM: TERM { (+ | -) TERM };");
        gives("2+3*4", 14);
        gives("9-3-2", 4);
        gives("9-(3-2)", 8);
        gives("9-3+2", 8);
        gives("20-6/2", 17);
        fault("fine +1", 5);
        fault("fine -1", 5);
        fault("fine 1+-2", 7);
        fault("fine 1+", 7);
        DUE.by("Terms 4a", "TERM: PIECE { (* | /) PIECE };");
        gives("(2+3)*4", 20);
        gives("48/4/2", 6);
        gives("48/(4/2)", 24);
        gives("7/2*2", 6);
        gives("7*2/4", 3);
        gives("(0-7)/2", -3);
        gives("7/(0-2)", -3);
        gives("(0-7)/(0-2)", 3);
        gives("1/2", 0);
        gives("(0-1)/2", 0);
        fault("fine *1", 5);
        fault("fine 1*/2", 7);
        fault("fine 1+*2", 7);
    }

    private static void pieces() {
        DUE.by("Terms 4a", "PIECE: NUMBER (1 to 4 digits) | NAME | ! PIECE | ( E ).");
        gives("0", 0);
        gives("9", 9);
        gives("9999", 9999);
        gives("0000", 0);
        gives("0012", 12);
        gives("d", 7);
        gives("!7", 0);
        gives("!0*5", 5);
        gives("!(0*5)", 1);
        gives("!!7", 1);
        gives("!0+!0", 2);
        gives("(((7)))", 7);
        gives("1+(2+(3+(4+(5+(6+(7+(8+9)))))))", 45);
        fault("fine 00000", 5);
        fault("fine ()", 6);
        fault("fine 1!", 6);
        fault("fine 1!2", 6);
        fault("fine (1))", 8);
        fault("fine 1)", 6);
        fault("fine )", 5);
        fault("fine (1 2)", 8);
        fault("fine 1(2)", 6);
        fault("fine d(2)", 6);
        fault("fine (1)(2)", 8);
        fault("fine (1)2", 8);
        fault("fine (wear)", 6);
    }

    private static void names() {
        DUE.by("Terms 4a", "NAMES, each one letter: of pair a the lesser PRICE, b the greater one, w both WEARS together;");
        for (int dearer = 0; dearer < 2; dearer++) {
            Run x = new Run(DUE);
            x.call("glove", 0, 0, 5, dearer == 0 ? 99 : 0);
            x.call("glove", 0, 1, 5, dearer == 0 ? 0 : 99);
            x.call("set", 0, 4, 99);
            x.call("set", 1, 4, 98);
            x.text("pair a");
            x.is(0, "value", 0, 1);
            x.text("pair b");
            x.is(99, "value", 0, 1);
            x.is(99, "value", 1, 0);
            x.text("pair w");
            x.is(197, "value", 0, 1);
        }
        allowed("pair", "abw");
        DUE.by("Terms 4a", "of wear x, p PRICE;");
        Run x = new Run(DUE);
        x.call("glove", 0, 0, 5, 17);
        x.call("loss", 0);
        x.call("seed", Lot.seed(Lot.rest(10, 9), Lot.any(), Lot.rest(10, 8)));
        x.text("wear x");
        x.call("days", 1);
        x.is(9, "told", 0, 4);
        x.text("wear p+x-8");
        x.call("days", 1);
        x.is(26, "told", 0, 4);
        allowed("wear", "xp");
        DUE.by("Terms 4a", "of fine d THE DAY, l how many are LOST");
        Run y = new Run(DUE);
        y.text("fine d*100+l");
        y.is(0, "fine");
        y.call("days", 99);
        y.is(9900, "fine");
        y.call("deal", 10);
        y.call("loss", 100);
        y.call("days", 1);
        y.is(10010, "fine");
        allowed("fine", "dl");
        DUE.by("Terms 4a", "(what fine gives is told by fine(); without a TEXT: how many are LOST).");
        Run z = new Run(DUE);
        z.still(0, "fine");
        z.call("deal", 10);
        z.call("loss", 100);
        z.call("days", 1);
        z.still(10, "fine");
        z.text("pair 5");
        z.text("wear 5");
        z.still(10, "fine");
        z.text("fine 5");
        z.still(5, "fine");
    }

    /** Of all letters these alone are names of a key. */
    private static void allowed(String key, String names) {
        for (char c = 'a'; c <= 'z'; c++) {
            if (names.indexOf(c) >= 0) {
                stands(key + " " + c);
                fault(key + " " + c + c, 5);
            } else {
                fault(key + " " + c, 5);
            }
        }
    }

    // ---- Terms 4b

    private static void words() {
        DUE.by("Terms 4b", "A word is a row of letters a .. z, or of digits, as long as it goes;");
        fault("pair ab", 5);
        fault("pair aa", 5);
        fault("pairpair 1", 0);
        fault("paira", 0);
        fault("pairz 1", 0);
        stands("pair 1234");
        // those right ahead of a and 0, and right behind z and 9, end a word and are signs
        for (char c : new char[] {'`', '{', '/', ':', '@', '['}) {
            fault("pair" + c + " 1", 4);
            fault("pair a" + c, c == '/' ? 7 : 6);
            fault("pair 1" + c, c == '/' ? 7 : 6);
        }
        fault("A", 0);
        fault("PAIR 1", 0);
        fault("pair A", 5);
        fault("pair " + (char) ('a' + 128), 5);
        fault("pair " + (char) ('1' + 128), 5);
    }

    private static void signs() {
        DUE.by("Terms 4b", "any other byte is a sign by itself.");
        for (char c = 0; c < 256; c++) {
            boolean letter = c >= 'a' && c <= 'z';
            boolean digit = c >= '0' && c <= '9';
            if (letter || digit || c == ' ') {
                continue;
            }
            boolean between = "|&<=>+-*/".indexOf(c) >= 0;
            boolean ahead = c == '(' || c == '!';
            fault(c + "fine 1", 0);
            fault("fine " + c, ahead ? 6 : 5);
            fault("fine 1" + c, between ? 7 : 6);
            fault("fine" + c + c, ahead ? 6 : 4);
            if (between) {
                stands("fine 1" + c + "1");
            } else {
                fault("fine 1" + c + "1", 6);
            }
            if (c == '!') {
                stands("fine" + c + "1");
            } else {
                fault("fine" + c + "1", c == '(' ? 6 : 4);
            }
        }
        fault("fine 1.5", 6);
        fault("fine 1<>2", 7);
    }

    private static void blanks() {
        DUE.by("Terms 4b", "Between words and signs, and at the ends, there may be blanks (byte 32);");
        stands("  pair   a  ");
        stands("pair ( a + ! b ) < 3");
        stands("pair(a)");
        stands("pair!a");
        stands(" ".repeat(90) + "pair 1");
        stands("pair" + " ".repeat(91) + "1");
        stands("pair 1" + " ".repeat(90));
        gives(" 1 + 2 * ( 3 ) ", 7);
        for (char c : new char[] {31, 33, 9, 10, 13, 0, 160}) {
            fault(c + "pair 1", 0);
            fault("pair 1" + c, 6);
        }
        fault("pair\t1", 4);
        fault("pair 1\t", 6);
        fault("pa ir 1", 0);
        DUE.by("Terms 4b", "a word right behind another one needs one.");
        stands("pair a");
        stands("pair 1");
        fault("pair1", 4);
        fault("pair12", 4);
        fault("pair12345", 4);
        fault("fine7+1", 4);
    }

    private static void faults() {
        DUE.by("Terms 4b", "FAULT: the first byte of the first word or sign with which no TEXT goes on");
        fault("pairs 1", 0);
        fault("  pai 1", 2);
        fault("1 pair", 0);
        fault("pair x", 5);
        fault("pair  hello", 6);
        fault("pair 1+ab*c", 7);
        fault("wear a", 5);
        fault("wear d", 5);
        fault("fine w", 5);
        fault("pair 1 2 3", 7);
        fault("pair 1+2)(", 8);
        fault("fine " + "d+".repeat(45) + ")", 95);
        DUE.by("Terms 4b", "(a word that needs a blank ahead of it,");
        fault("pair1", 4);
        fault("pair 1a", 6);
        fault("pair a1", 6);
        fault("pair 1+1a", 8);
        fault("pair (1a)", 7);
        fault("pair 1 a", 7);
        fault("pair a 1", 7);
        fault("pair a b", 7);
        fault("pair 1 2", 7);
    }

    private static void numbersTooLong() {
        DUE.by("Terms 4b", "a NUMBER of more than 4 digits,");
        stands("pair 1234");
        fault("pair 12345", 5);
        fault("pair 00000", 5);
        fault("pair 1+00001", 7);
        fault("pair (99999)", 6);
        fault("pair 1 12345", 7);
        fault("pair " + "1".repeat(91), 5);
        stands("pair 1234+5678");
    }

    private static void tooManyOpen() {
        DUE.by("Terms 4b", "the ninth ( that would be open within others,");
        stands("pair ((((((((a))))))))");
        fault("pair (((((((((a)))))))))", 13);
        fault("pair ((((((((((", 13);
        fault("pair((((((((( ", 12);
        stands("pair ((((((((1))))))))+((((((((2))))))))");
        stands("pair (1)+(2)+(3)+(4)+(5)+(6)+(7)+(8)+(9)+(1)");
        fault("pair ((((((((1)))))))+((1", 25);
        fault("pair ((((((((1)))))))+((((((((1", 29);
        fault("pair ((((((((1))))))))+(((((((((", 31);
        fault("pair 1+(1+(1+(1+(1+(1+(1+(1+(1+(1", 31);
        stands("pair !(!(!(!(!(!(!(!(a))))))))");
        fault("pair !(((((((((a)))))))))", 14);
        DUE.by("Terms 4b", "the ninth ! likewise, each by itself);");
        stands("pair !!!!!!!!a");
        fault("pair !!!!!!!!!a", 13);
        fault("pair !!!!!!!!!!", 13);
        stands("pair !!!!!!!!1+!!!!!!!!2");
        fault("pair !!!!!!!!1+!!!!!!!!!2", 23);
        stands("pair (!!!!!!!!1)*!!!!!!!!2");
        stands("pair !1+!2+!3+!4+!5+!6+!7+!8+!9+!1");
        fault("pair !!!!(!!!!(!1", 15);
        fault("pair !(!(!(!(!(!(!(!(!", 21);
        stands("pair !!!!(!!!!(1))");
        stands("pair !!!!((((!!!!((((1))))))))");
        stands("pair (((!!!!!!!!1)))+(((((((!!!!!!!!(2))))))))");
        gives("!!!!!!!!5", 1);
        gives("!!!!!!!5", 0);
    }

    private static void tooSoon() {
        DUE.by("Terms 4b", "the end (the place behind the last byte), if it comes too soon.");
        fault("", 0);
        fault(" ", 1);
        fault("   ", 3);
        fault(" ".repeat(96), 96);
        fault("pair", 4);
        fault("pair  ", 6);
        fault("pair 1+", 7);
        fault("pair 1+ ", 8);
        fault("pair 1<", 7);
        fault("pair 1|", 7);
        fault("pair 1&", 7);
        fault("pair 1/", 7);
        fault("pair !", 6);
        fault("pair (", 6);
        fault("pair (1", 7);
        fault("pair ((1)", 9);
        fault("pair (1+  ", 10);
        fault("fine " + "d+".repeat(45) + "(", 96);
        fault("fine (" + "d+".repeat(44) + "d ", 96);
    }

    private static void workedOut() {
        DUE.by("Terms 4b", "Ints wrap;");
        gives("9999*9999*9999", 9999 * 9999 * 9999);
        gives("8192*8192*32", LEAST);
        gives("8192*8192*32-1", MOST);
        gives("8192*8192*32-1+1", LEAST);
        gives("8192*8192*64", 0);
        gives("0-8192*8192*32", LEAST);
        gives("8192*8192*32/(0-1)", LEAST);
        gives("8192*8192*32*(0-1)", LEAST);
        gives("8192*8192*32<0", 1);
        gives("8192*8192*32-1>8192*8192*32", 1);
        DUE.by("Terms 4b", "/ is 0 by 0;");
        gives("7/0", 0);
        gives("0/0", 0);
        gives("(0-7)/0", 0);
        gives("8192*8192*32/0", 0);
        gives("7/(d-7)+1", 1);
        gives("5/0*3+2", 2);
        DUE.by("Terms 4b", "tests, & | ! give 1 or 0 (what is not 0 is true; both sides are worked out).");
        int[][] tests = {{2, 3, 1, 0, 0}, {3, 3, 0, 1, 0}, {4, 3, 0, 0, 1}, {0, 0, 0, 1, 0}, {0, 9999, 1, 0, 0}};
        for (int[] t : tests) {
            gives(t[0] + "<" + t[1], t[2]);
            gives(t[0] + "=" + t[1], t[3]);
            gives(t[0] + ">" + t[1], t[4]);
        }
        String[] values = {"0", "1", "2", "(0-1)", "9999", "8192*8192*32"};
        for (int i = 0; i < values.length; i++) {
            gives("!(" + values[i] + ")", i == 0 ? 1 : 0);
            for (int j = 0; j < values.length; j++) {
                gives(values[i] + "&" + values[j], i != 0 && j != 0 ? 1 : 0);
                gives(values[i] + "|" + values[j], i != 0 || j != 0 ? 1 : 0);
            }
        }
        gives("0&1/0", 0);
        gives("1|1/0", 1);
        gives("1|1+1", 1);
        gives("0&1|1&1", 1);
    }

    private static void toldLast() {
        DUE.by("Terms 4b", "Of a KEY that TEXT counts that was told last.");
        Run x = new Run(DUE);
        x.text("fine 1");
        x.is(1, "fine");
        x.text("fine 2");
        x.is(2, "fine");
        x.text("wear 3");
        x.text("pair 4");
        x.is(2, "fine");
        x.is(1, "why", 2);
        x.text("fine 5 5");
        x.is(2, "fine");
        Run full = texts(14);
        full.is(13, "fine");
        full.text("fine 99");
        full.is(13, "fine");
        full.is(13, "why", 2);
    }

    // ---- Promise 25 to 29

    private static void feed() {
        DUE.by("Promise 25", "Twelve bytes come to THE TAPE, the highest of each number first: how many it has.");
        Run x = new Run(DUE);
        for (int i = 1; i <= 8; i++) {
            x.is(12 * i, "feed", LEAST, -1, MOST);
            x.is(12 * i, "count", 7);
        }
        Run text = new Run(DUE);
        // "fine", " 12+", "30-9"
        text.is(12, "feed", 0x66696e65, 0x2031322b, 0x33302d39);
        // "*(1+", "d)  ", "    "
        text.is(24, "feed", 0x2a28312b, 0x64292020, 0x20202020);
        text.is(0, "text");
        text.is(33, "fine");
        // the highest bit of a byte is no sign: 0xe6 is not 'f'
        Run high = new Run(DUE);
        high.is(12, "feed", 0xe6696e65, 0x20312020, 0x20202020);
        high.is(-100, "text");
        Run behind = new Run(DUE);
        behind.call("feed", 0x66696e65, 0x20372b37, 0x2b372b37);
        behind.is(7, "trim", 7);
        behind.is(19, "feed", 0x35202020, 0x20202020, 0x20202020);
        behind.is(0, "text");
        behind.is(12, "fine");
        DUE.by("Promise 25", "FULL: it would have more than 96.");
        x.still(FULL, "feed", 0, 0, 0);
        for (int there = 85; there <= 96; there++) {
            Run y = x.twin();
            y.call("trim", there);
            y.still(FULL, "feed", 0, 0, 0);
        }
        x.call("trim", 84);
        x.is(96, "feed", 0, 0, 0);
    }

    private static void trim() {
        DUE.by("Promise 26", "THE TAPE keeps its first n bytes: n.");
        Run x = new Run(DUE);
        x.still(0, "trim", 0);
        x.feed("fine 1+2+3+4");
        x.still(12, "trim", 12);
        x.is(8, "trim", 8);
        x.is(8, "count", 7);
        Run y = x.twin();
        y.is(0, "text");
        y.is(3, "fine");
        x.is(7, "trim", 7);
        x.is(-107, "text");
        Run none = new Run(DUE);
        none.feed("fine 1");
        none.leavesAs(new Run(DUE), 0, "trim", 0);
        Run full = new Run(DUE);
        full.feed("fine " + "d+".repeat(45) + "l");
        full.still(96, "trim", 96);
        full.is(95, "trim", 95);
        full.is(95, "count", 7);
        DUE.by("Promise 26", "BAD.");
        full.refuses(BAD, "trim", new int[] {0}, 0, -1, 96, 97);
        new Run(DUE).refuses(BAD, "trim", new int[] {0}, 0, -1, 1);
        Run some = new Run(DUE);
        some.feed("fine 1+2+3+4");
        some.refuses(BAD, "trim", new int[] {0}, 0, -1, 13);
        some.is(5, "trim", 5);
        some.refuses(BAD, "trim", new int[] {0}, 0, -1, 6, 12);
    }

    private static void text() {
        DUE.by("Promise 27", "THE TAPE is a TEXT: its number.");
        Run x = new Run(DUE);
        String[] texts = {"pair 1", "wear x*(x+10)-!p", "fine d"};
        for (int i = 0; i < 14; i++) {
            x.feed(texts[i % 3]);
            x.is(i, "text");
            x.is(0, "count", 7);
            x.is(i % 3, "textTold", i, 0);
        }
        DUE.by("Promise 27", "-100 less the place of its FAULT;");
        for (int many : new int[] {0, 13, 14}) {
            for (int place = 6; place <= 96; place += 15) {
                Run y = texts(many);
                y.feed("fine 1" + " ".repeat(place - 6) + (place < 96 ? ")" : ""));
                if (place < 96) {
                    y.leavesAs(texts(many), -100 - place, "text");
                }
                y.feed("fine 1+" + " ".repeat(Math.max(0, place - 7)));
                y.leavesAs(texts(many), -100 - Math.max(7, place), "text");
            }
            Run empty = texts(many);
            empty.still(-100, "text");
        }
        DUE.by("Promise 27", "FULL.");
        Run full = texts(14);
        full.feed("fine 14");
        full.leavesAs(texts(14), FULL, "text");
        full.feed("pair 14");
        full.leavesAs(texts(14), FULL, "text");
        Run nearly = texts(13);
        nearly.feed("pair 14");
        nearly.is(13, "text");
    }

    private static void textTold() {
        DUE.by("Promise 28", "Of a TEXT: what 0 KEY (0 pair, 1 wear, 2 fine), 1 how many NUMBERS and NAMES it has.");
        Run x = new Run(DUE);
        x.text("wear x*(x+10)-!p");
        x.text("pair 1");
        x.text("fine d&l");
        x.text("fine " + "d+".repeat(45) + "9");
        x.text("pair !!!!!!!!((((((((a))))))))");
        int[][] due = {{1, 4}, {0, 1}, {2, 2}, {2, 46}, {0, 1}};
        for (int text = 0; text < due.length; text++) {
            x.still(due[text][0], "textTold", text, 0);
            x.still(due[text][1], "textTold", text, 1);
        }
        DUE.by("Promise 28", "BAD.");
        x.refuses(BAD, "textTold", new int[] {0, 0}, 0, -1, 5, 14);
        x.refuses(BAD, "textTold", new int[] {0, 0}, 1, -1, 2);
        texts(14).refuses(BAD, "textTold", new int[] {0, 1}, 0, -1, 14, 15);
        texts(14).still(1, "textTold", 13, 1);
        Run none = new Run(DUE);
        none.text("fine 1+");
        none.refuses(BAD, "textTold", new int[] {0, 0}, 0, -1, 0);
    }

    private static void why() {
        DUE.by("Promise 29", "The TEXT that counts for a KEY.");
        Run x = new Run(DUE);
        x.text("fine 1");
        x.text("wear 1");
        x.text("fine 2");
        x.still(1, "why", 1);
        x.still(2, "why", 2);
        x.text("fine 2 2");
        x.still(2, "why", 2);
        x.text("pair 3");
        x.still(3, "why", 0);
        x.text("wear 3");
        x.still(4, "why", 1);
        DUE.by("Promise 29", "BAD;");
        x.refuses(BAD, "why", new int[] {0}, 0, -1, 3);
        new Run(DUE).refuses(BAD, "why", new int[] {0}, 0, -1, 3);
        DUE.by("Promise 29", "NONE.");
        for (int key = 0; key < 3; key++) {
            new Run(DUE).still(NONE, "why", key);
        }
        Run fines = texts(14);
        fines.still(NONE, "why", 0);
        fines.still(NONE, "why", 1);
        fines.still(13, "why", 2);
    }
}
