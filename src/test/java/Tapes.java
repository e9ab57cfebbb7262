/** Texts as the numbers that bring them to a tape. */
final class Tapes {
    private Tapes() {
    }

    /** Rows of three numbers for feed; blanks make the last one whole. */
    static int[][] fed(String text) {
        StringBuilder padded = new StringBuilder(text);
        while (padded.length() % 12 != 0) {
            padded.append(' ');
        }
        int[][] rows = new int[padded.length() / 12][];
        for (int i = 0; i < rows.length; i++) {
            rows[i] = new int[] {number(padded, 12 * i), number(padded, 12 * i + 4), number(padded, 12 * i + 8)};
        }
        return rows;
    }

    static int text(TwoGuilds x, String text) {
        x.trim(0);
        for (int[] row : fed(text)) {
            x.feed(row[0], row[1], row[2]);
        }
        x.trim(text.length());
        return x.text();
    }

    static int number(CharSequence text, int at) {
        int number = 0;
        for (int i = at; i < at + 4; i++) {
            number = number << 8 | text.charAt(i);
        }
        return number;
    }
}
