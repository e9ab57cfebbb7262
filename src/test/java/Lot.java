import java.util.function.IntPredicate;

/** Draws, as the document tells them, for finding seeds by which something comes about. */
final class Lot {
    private Lot() {
    }

    static int next(int z) {
        return (int) (z * 1103515245L + 12345L);
    }

    /** What a draw gives that left z behind. */
    static int given(int z) {
        return (int) ((z & 0xffffffffL) / 256);
    }

    /** The least seed from 0 on whose first draws are as wanted, one behind the other. */
    static int seed(IntPredicate... wanted) {
        for (int seed = 0; seed < Integer.MAX_VALUE; seed++) {
            if (isSeed(seed, wanted)) {
                return seed;
            }
        }
        throw new IllegalStateException("there is no such seed");
    }

    private static boolean isSeed(int seed, IntPredicate... wanted) {
        int z = seed;
        for (IntPredicate want : wanted) {
            z = next(z);
            if (!want.test(given(z))) {
                return false;
            }
        }
        return true;
    }

    static IntPredicate rest(int by, int rest) {
        return draw -> draw % by == rest;
    }

    static IntPredicate any() {
        return draw -> true;
    }
}
