import java.util.List;

/**
 * Counts and prints the answers that are not as due. Tests of promises name, ahead of the
 * answers, the words of the document that ask for them; no words of a part may be left over.
 */
final class Due {
    private Doc doc = null;
    private String words = "";
    private int askedUnderWords = 1;
    private int wrong = 0;
    private int asked = 0;

    /** What follows is due by these words, which stand in that part of the document. */
    void by(String part, String quoted) {
        if (doc == null) {
            doc = new Doc();
        }
        wantAnAnswer();
        words = part + " '" + quoted + "': ";
        askedUnderWords = 0;
        String fault = doc.name(part, quoted);
        if (fault != null) {
            fail(fault);
        }
    }

    void is(String call, long got, long want) {
        asked++;
        askedUnderWords++;
        if (got != want) {
            fail(words + call + " answered " + got + ", due is " + want);
        }
    }

    void holds(String what, boolean holds) {
        is(what, holds ? 1 : 0, 1);
    }

    /** The end of a test that holds all words of these parts. */
    void end(List<String> parts) {
        wantAnAnswer();
        for (String part : parts) {
            for (String left : doc.unnamed(part)) {
                fail(part + " has words without a test: '" + left + "'");
            }
        }
        end();
    }

    void end() {
        System.out.println(wrong == 0 ? asked + " answers are as due" : wrong + " answers are not as due");
        if (wrong != 0) {
            System.exit(1);
        }
    }

    private void wantAnAnswer() {
        if (askedUnderWords == 0) {
            fail(words + "no answer is asked for");
        }
    }

    private void fail(String row) {
        wrong++;
        System.out.println(row);
    }
}
