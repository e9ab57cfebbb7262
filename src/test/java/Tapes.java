/** Brings written texts to the tape of an object. */
final class Tapes {
    private Tapes() {
    }

    /** Feeds bytes (characters 0 to 255) in twelves and trims what is too much. */
    static void feed(TwoGuilds x, String text) {
        int whole = (text.length() + 11) / 12 * 12;
        StringBuilder padded = new StringBuilder(text);
        while (padded.length() < whole) {
            padded.append(' ');
        }
        for (int i = 0; i < whole; i += 12) {
            x.feed(number(padded, i), number(padded, i + 4), number(padded, i + 8));
        }
        x.trim(text.length());
    }

    static int text(TwoGuilds x, String text) {
        feed(x, text);
        return x.text();
    }

    static int number(CharSequence text, int at) {
        int number = 0;
        for (int i = at; i < at + 4; i++) {
            number = number << 8 | text.charAt(i);
        }
        return number;
    }
}
