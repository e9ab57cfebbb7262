import java.util.List;

/** Part 3 of the terms and promises 20 to 24: words and their joins. */
public final class WordsTest {
    private static final Due DUE = new Due();
    private static final int BAD = TwoGuilds.BAD;
    private static final int NONE = TwoGuilds.NONE;

    public static void main(String[] args) {
        termsOfWords();
        termsOfJoins();
        termsOfSure();
        termsOfBetter();
        worn();
        forget();
        joins();
        sure();
        better();
        DUE.end(List.of("Terms 3a", "Promise 20", "Promise 21", "Promise 22", "Promise 23", "Promise 24"));
    }

    /** Told are WORN, left and right by turns. */
    private static Run having(int... words) {
        Run x = new Run(DUE);
        for (int i = 0; i < words.length; i += 2) {
            x.call("worn", words[i], words[i + 1]);
        }
        return x;
    }

    private static Run tenWorn() {
        return having(4, 4, 4, 4, 4, 4, 4, 4, 4, 4, 4, 4, 4, 4, 4, 4, 4, 4, 0, 0);
    }

    // ---- Terms 3a

    private static void termsOfWords() {
        DUE.by("Terms 3a", "WORDS of the left guild and of the right one are 0 .. 4 each.");
        for (int left = 0; left <= 4; left++) {
            for (int right = 0; right <= 4; right++) {
                Run x = having();
                x.is(1, "worn", left, right);
                x.is(right, "sure", left);
            }
        }
        Run x = having();
        x.refuses(BAD, "worn", new int[] {0, 0}, 0, -1, 5);
        x.refuses(BAD, "worn", new int[] {0, 0}, 1, -1, 5);
        DUE.by("Terms 3a", "A JOIN gives each left WORD a right one, no two the same.");
        having().is(120, "joins");
        for (int left = 1; left <= 4; left++) {
            having(0, 0, left, 0).is(0, "joins");
        }
        DUE.by("Terms 3a", "WORN are told: a left WORD and a right one (at most 10; several may be alike).");
        Run ten = having();
        for (int i = 1; i <= 10; i++) {
            ten.is(i, "worn", 4, 4);
            ten.is(24, "joins");
        }
        ten.still(TwoGuilds.FULL, "worn", 4, 4);
        ten.still(TwoGuilds.FULL, "worn", 0, 0);
    }

    private static void termsOfJoins() {
        DUE.by("Terms 3a", "A JOIN HOLDS, if it gives the right WORD of each WORN for its left one.");
        having(2, 3).is(24, "joins");
        having(2, 3, 3, 2).is(6, "joins");
        having(2, 3, 2, 4).is(0, "joins");
        having(0, 1, 1, 2, 2, 3).is(2, "joins");
        Run last = having(0, 0, 0, 0, 0, 0, 0, 0, 0, 0, 0, 0, 0, 0, 0, 0, 0, 0);
        last.is(24, "joins");
        last.is(10, "worn", 0, 1);
        last.is(0, "joins");
    }

    private static void termsOfSure() {
        DUE.by("Terms 3a", "SURE of a left WORD: the right one that all JOINS that HOLD give it, if they all do so.");
        Run x = having(0, 3, 2, 4, 4, 0);
        x.is(3, "sure", 0);
        x.is(NONE, "sure", 1);
        x.is(4, "sure", 2);
        x.is(NONE, "sure", 3);
        x.is(0, "sure", 4);
        x.call("worn", 3, 2);
        x.is(1, "sure", 1);
        for (int left = 0; left <= 4; left++) {
            having().is(NONE, "sure", left);
        }
    }

    private static void termsOfBetter() {
        DUE.by("Terms 3a", "BETTER TOLD: the left WORD by which, if it were told what it means, the number of JOINS that HOLD then would be least at worst");
        Run x = having(0, 0);
        x.is(1, "better", 0);
        x.is(6, "better", 1);
        Run y = having(0, 0, 1, 1, 2, 3);
        y.is(3, "better", 0);
        y.is(1, "better", 1);
        having(1, 1).is(6, "better", 1);
        DUE.by("Terms 3a", "(over all right WORDS that some JOIN that HOLDS gives it)");
        // a right WORD that none gives would leave 0 JOINS; it must not count
        Run three = having(4, 4, 3, 3);
        three.is(0, "better", 0);
        three.is(2, "better", 1);
        Run one = having(0, 4, 1, 3, 2, 2, 3, 1);
        one.is(1, "better", 1);
        DUE.by("Terms 3a", "of several the least.");
        having().is(0, "better", 0);
        having(1, 2).is(0, "better", 0);
        having(0, 2).is(1, "better", 0);
        having(0, 1, 1, 2, 2, 3, 3, 4, 4, 0).is(0, "better", 0);
    }

    // ---- Promise 20 to 24

    private static void worn() {
        DUE.by("Promise 20", "One more WORN: how many there are.");
        Run x = having();
        for (int i = 1; i <= 10; i++) {
            x.is(i, "worn", i % 5, i % 5);
            x.is(i, "count", 4);
        }
        x.is(1, "joins");
        DUE.by("Promise 20", "BAD;");
        for (Run y : new Run[] {having(1, 1), tenWorn()}) {
            y.refuses(BAD, "worn", new int[] {0, 0}, 0, -1, 5);
            y.refuses(BAD, "worn", new int[] {0, 0}, 1, -1, 5);
        }
        DUE.by("Promise 20", "FULL.");
        tenWorn().still(TwoGuilds.FULL, "worn", 1, 1);
        tenWorn().still(TwoGuilds.FULL, "worn", 4, 4);
        tenWorn().is(6, "joins");
    }

    private static void forget() {
        DUE.by("Promise 21", "WORN are no more: how many there were.");
        having().still(0, "forget");
        Run x = having(0, 0, 1, 1);
        x.is(2, "forget");
        x.is(0, "count", 4);
        x.is(120, "joins");
        x.is(1, "worn", 0, 1);
        x.is(1, "sure", 0);
        tenWorn().leavesAs(having(), 10, "forget");
    }

    private static void joins() {
        DUE.by("Promise 22", "How many JOINS HOLD.");
        Run x = having();
        x.still(120, "joins");
        int[] due = {24, 6, 2, 1, 1};
        for (int i = 0; i < 5; i++) {
            x.call("worn", i, 4 - i);
            x.still(due[i], "joins");
        }
        x.call("worn", 0, 0);
        x.still(0, "joins");
    }

    private static void sure() {
        DUE.by("Promise 23", "SURE of a left WORD.");
        Run x = having(0, 3, 2, 4, 4, 0, 3, 2);
        int[] due = {3, 1, 4, 2, 0};
        for (int left = 0; left <= 4; left++) {
            x.still(due[left], "sure", left);
        }
        DUE.by("Promise 23", "BAD;");
        for (Run y : new Run[] {x, having(), having(0, 0, 0, 1)}) {
            y.refuses(BAD, "sure", new int[] {0}, 0, -1, 5);
        }
        DUE.by("Promise 23", "NONE: it is not sure, or none HOLDS.");
        having().still(NONE, "sure", 0);
        having(0, 0, 1, 1, 2, 2).still(NONE, "sure", 3);
        having(0, 0, 0, 1).still(NONE, "sure", 0);
        having(0, 0, 0, 1).still(NONE, "sure", 4);
    }

    private static void better() {
        DUE.by("Promise 24", "BETTER TOLD: what 0 the left WORD, 1 how many JOINS at worst.");
        Run x = having();
        x.still(0, "better", 0);
        x.still(24, "better", 1);
        x.call("worn", 0, 0);
        x.still(1, "better", 0);
        x.still(6, "better", 1);
        x.call("worn", 1, 3);
        x.still(2, "better", 0);
        x.still(2, "better", 1);
        x.call("worn", 2, 2);
        x.still(3, "better", 0);
        x.still(1, "better", 1);
        x.call("worn", 3, 4);
        x.still(0, "better", 0);
        x.still(1, "better", 1);
        DUE.by("Promise 24", "BAD;");
        for (Run y : new Run[] {x, having(), having(0, 0, 0, 1)}) {
            y.refuses(BAD, "better", new int[] {0}, 0, -1, 2);
        }
        DUE.by("Promise 24", "NONE: none HOLDS.");
        having(0, 0, 0, 1).still(NONE, "better", 0);
        having(0, 0, 1, 0).still(NONE, "better", 1);
    }
}
