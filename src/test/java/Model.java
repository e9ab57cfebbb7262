import java.util.ArrayList;
import java.util.HashMap;
import java.util.List;
import java.util.Map;

/**
 * The document once more, written for plainness with the whole Java library and by other
 * ways than the class itself (classes for kinds, all pairings tried, NaN, exceptions),
 * so that the two can be held against one another.
 */
final class Model {
    static final int BAD = -1000000001;
    static final int NO = -1000000002;
    static final int FULL = -1000000003;
    static final int NONE = -1000000005;
    static final int NOTHING = -1000000011;
    static final int KIND = -1000000012;
    static final int INDEX = -1000000013;
    static final int SIZE = -1000000014;

    // ---- kinds as classes

    static class Kind {
        int worth(Thing g) {
            return g.price;
        }

        boolean fits(Thing one, Thing other) {
            return one.size == other.size;
        }
    }

    static class Lined extends Kind {
        @Override int worth(Thing g) {
            return super.worth(g) + 5;
        }

        @Override boolean fits(Thing one, Thing other) {
            return super.fits(one, other) && one.wear < 50 && other.wear < 50;
        }
    }

    static class Furred extends Lined {
        @Override int worth(Thing g) {
            return 2 * super.worth(g);
        }

        @Override boolean fits(Thing one, Thing other) {
            return super.fits(one, other) && other.price >= one.price / 2;
        }
    }

    static class Loose extends Kind {
        @Override int worth(Thing g) {
            return 99 - g.price;
        }

        @Override boolean fits(Thing one, Thing other) {
            return Math.abs(one.size - other.size) <= 1;
        }
    }

    static class Forged extends Loose {
        @Override int worth(Thing g) {
            return super.worth(g) - 3;
        }

        @Override boolean fits(Thing one, Thing other) {
            return super.fits(one, other) && !(other.kind() instanceof Forged);
        }
    }

    static class Mitten extends Kind {
        @Override int worth(Thing g) {
            return 8;
        }

        @Override boolean fits(Thing one, Thing other) {
            return true;
        }
    }

    static final Kind[] KINDS = {new Kind(), new Lined(), new Loose(), new Furred(), new Forged(), new Mitten()};

    static final class Thing implements Cloneable {
        int kindNumber;
        int side;
        int size;
        int price;
        int wear;
        int lost;

        Thing(int kind, int side, int size, int price) {
            this.kindNumber = kind;
            this.side = side;
            this.size = size;
            this.price = price;
        }

        Kind kind() {
            return KINDS[kindNumber];
        }

        boolean isOf(int kind) {
            return KINDS[kind].getClass().isInstance(kind());
        }

        Thing twin() {
            Thing t = new Thing(kindNumber, side, size, price);
            t.wear = wear;
            t.lost = lost;
            return t;
        }

        static boolean pair(Thing a, Thing b) {
            boolean forged = a.kind() instanceof Forged || b.kind() instanceof Forged;
            return a.lost + b.lost == 0 && (a.side != b.side || forged)
                && a.kind().fits(a, b) && b.kind().fits(b, a);
        }
    }

    static final class Text {
        final int key;
        final List<String> tokens;

        Text(int key, List<String> tokens) {
            this.key = key;
            this.tokens = tokens;
        }

        int operands() {
            int n = 0;
            for (String t : tokens) {
                if (Character.isLetterOrDigit(t.charAt(0))) {
                    n++;
                }
            }
            return n;
        }

        int give(Map<String, Integer> names) {
            return give(tokens, names);
        }

        /** Splits at the last sign of the loosest sort that stands outside all brackets. */
        private static int give(List<String> e, Map<String, Integer> names) {
            for (String loosest : new String[] {"|", "&", "<=>", "+-", "*/"}) {
                int open = 0;
                for (int i = e.size() - 1; i >= 0; i--) {
                    String t = e.get(i);
                    open += t.equals(")") ? 1 : t.equals("(") ? -1 : 0;
                    if (open == 0 && loosest.contains(t)) {
                        return work(t, give(e.subList(0, i), names), give(e.subList(i + 1, e.size()), names));
                    }
                }
            }
            String first = e.get(0);
            if (first.equals("!")) {
                return give(e.subList(1, e.size()), names) == 0 ? 1 : 0;
            }
            if (first.equals("(")) {
                return give(e.subList(1, e.size() - 1), names);
            }
            return Character.isDigit(first.charAt(0)) ? Integer.parseInt(first) : names.get(first);
        }

        private static int work(String sign, int a, int b) {
            boolean p = a != 0;
            boolean q = b != 0;
            return switch (sign) {
                case "|" -> p | q ? 1 : 0;
                case "&" -> p & q ? 1 : 0;
                case "<" -> a < b ? 1 : 0;
                case "=" -> a == b ? 1 : 0;
                case ">" -> a > b ? 1 : 0;
                case "+" -> a + b;
                case "-" -> a - b;
                case "*" -> a * b;
                default -> b == 0 ? 0 : (int) ((long) a / b);
            };
        }
    }

    static final String[] KEY_WORDS = {"pair", "wear", "fine"};
    static final String[] KEY_NAMES = {"abw", "xp", "dl"};

    /** Thrown with the place of a fault. */
    static final class Fault extends Exception {
        private static final long serialVersionUID = 1;
        final int place;

        Fault(int place) {
            super("fault");
            this.place = place;
        }
    }

    /** A row of what is open, instead of a grammar: says what may come next, and no more. */
    static Text parse(String tape) throws Fault {
        List<String> tokens = new ArrayList<>();
        List<Integer> notsOutside = new ArrayList<>();
        List<Boolean> testsOutside = new ArrayList<>();
        int key = -1;
        int nots = 0;
        int notsOpen = 0;
        boolean tested = false;
        boolean wantsPiece = true;
        boolean wordBefore = false;
        int i = 0;
        while (i < tape.length()) {
            char c = tape.charAt(i);
            if (c == ' ') {
                wordBefore = false;
                i++;
                continue;
            }
            int j = i + 1;
            boolean letter = c >= 'a' && c <= 'z';
            boolean digit = c >= '0' && c <= '9';
            while (letter && j < tape.length() && tape.charAt(j) >= 'a' && tape.charAt(j) <= 'z') {
                j++;
            }
            while (digit && j < tape.length() && tape.charAt(j) >= '0' && tape.charAt(j) <= '9') {
                j++;
            }
            String token = tape.substring(i, j);
            if ((letter || digit) && wordBefore) {
                throw new Fault(i);
            }
            wordBefore = letter || digit;
            if (key < 0) {
                key = List.of(KEY_WORDS).indexOf(token);
                if (key < 0) {
                    throw new Fault(i);
                }
            } else if (wantsPiece) {
                boolean number = digit && token.length() <= 4;
                boolean name = letter && token.length() == 1 && KEY_NAMES[key].contains(token);
                if (number || name) {
                    wantsPiece = false;
                    notsOpen -= nots;
                    nots = 0;
                } else if (c == '!' && notsOpen < 8) {
                    nots++;
                    notsOpen++;
                } else if (c == '(' && notsOutside.size() < 8) {
                    notsOutside.add(nots);
                    testsOutside.add(tested);
                    nots = 0;
                    tested = false;
                } else {
                    throw new Fault(i);
                }
                tokens.add(token);
            } else {
                if (c == ')' && !notsOutside.isEmpty()) {
                    notsOpen -= notsOutside.remove(notsOutside.size() - 1);
                    tested = testsOutside.remove(testsOutside.size() - 1);
                    nots = 0;
                } else if ("|&".indexOf(c) >= 0) {
                    tested = false;
                    wantsPiece = true;
                } else if ("+-*/".indexOf(c) >= 0) {
                    wantsPiece = true;
                } else if ("<=>".indexOf(c) >= 0 && !tested) {
                    tested = true;
                    wantsPiece = true;
                } else {
                    throw new Fault(i);
                }
                tokens.add(token);
            }
            i = j;
        }
        if (key < 0 || wantsPiece || !notsOutside.isEmpty()) {
            throw new Fault(tape.length());
        }
        return new Text(key, tokens);
    }

    // ---- what an image keeps

    static final class World {
        List<Thing> gloves = new ArrayList<>();
        List<int[]> worn = new ArrayList<>();
        List<Text> texts = new ArrayList<>();
        int loss = 5;
        int day = 0;
        int z = 1;

        World twin() {
            World w = new World();
            for (Thing g : gloves) {
                w.gloves.add(g.twin());
            }
            w.worn.addAll(worn);
            w.texts.addAll(texts);
            w.loss = loss;
            w.day = day;
            w.z = z;
            return w;
        }

        int draw(int by) {
            z = (int) (z * 1103515245L + 12345L);
            return (z >>> 8) % by;
        }

        int lost() {
            int n = 0;
            for (Thing g : gloves) {
                n += g.lost;
            }
            return n;
        }

        int wear() {
            int n = 0;
            for (Thing g : gloves) {
                n += g.lost == 1 ? 0 : g.wear;
            }
            return n;
        }

        int textOf(int key) {
            for (int i = texts.size() - 1; i >= 0; i--) {
                if (texts.get(i).key == key) {
                    return i;
                }
            }
            return NONE;
        }

        void day(Thing home) {
            int text = textOf(1);
            for (Thing g : gloves) {
                if (g == home || g.lost == 1) {
                    continue;
                }
                int x = draw(10);
                int more = x / 4;
                if (text != NONE) {
                    Map<String, Integer> names = new HashMap<>();
                    names.put("x", x);
                    names.put("p", g.price);
                    more = clamp(texts.get(text).give(names), 20);
                }
                g.wear = Math.min(99, g.wear + more);
                g.lost = draw(100) < loss ? 1 : 0;
            }
            day++;
        }

        int value(Thing a, Thing b) {
            int text = textOf(0);
            if (text == NONE) {
                return Math.max(0, a.price + b.price - (a.wear + b.wear) / 10);
            }
            Map<String, Integer> names = new HashMap<>();
            names.put("a", Math.min(a.price, b.price));
            names.put("b", Math.max(a.price, b.price));
            names.put("w", a.wear + b.wear);
            return clamp(texts.get(text).give(names), 999);
        }

        int[][] values() {
            int n = gloves.size();
            int[][] v = new int[n][n];
            for (int i = 0; i < n; i++) {
                for (int j = 0; j < n; j++) {
                    boolean pair = i != j && Thing.pair(gloves.get(i), gloves.get(j));
                    v[i][j] = pair ? value(gloves.get(i), gloves.get(j)) : -1;
                }
            }
            return v;
        }

        /** All pairings in the order that decides among equals; the first of the best is it. */
        int[] bestPairing(int set) {
            int n = gloves.size();
            int[] partners = new int[n];
            java.util.Arrays.fill(partners, -1);
            int[] best = new int[n + 1];
            best[n] = -1;
            tryAll(0, set, partners, 0, best, values());
            return best;
        }

        private static void tryAll(int i, int free, int[] partners, int value, int[] best, int[][] values) {
            int n = partners.length;
            if (i == n) {
                if (value > best[n]) {
                    System.arraycopy(partners, 0, best, 0, n);
                    best[n] = value;
                }
                return;
            }
            if ((free & 1 << i) != 0) {
                for (int j = i + 1; j < n; j++) {
                    if ((free & 1 << j) != 0 && values[i][j] >= 0) {
                        partners[i] = j;
                        partners[j] = i;
                        tryAll(i + 1, free & ~(1 << i) & ~(1 << j), partners, value + values[i][j], best, values);
                        partners[i] = -1;
                        partners[j] = -1;
                    }
                }
            }
            tryAll(i + 1, free & ~(1 << i), partners, value, best, values);
        }

        int bestOf(int set) {
            return bestPairing(set)[gloves.size()];
        }

        int all() {
            return (1 << gloves.size()) - 1;
        }
    }

    static int clamp(int v, int most) {
        return v < 0 ? 0 : v > most ? most : v;
    }

    World now = new World();
    World image = null;
    StringBuilder tape = new StringBuilder();
    List<Integer> waiting = new ArrayList<>();
    Object[] sheets = new Object[4];
    Object[] slots = new Object[5];

    private boolean is(int glove) {
        return glove >= 0 && glove < now.gloves.size();
    }

    private Thing at(int glove) {
        return now.gloves.get(glove);
    }

    int glove(int kind, int side, int size, int price) {
        if (kind < 0 || kind > 5 || side < 0 || side > 1 || size < 0 || size > 9 || price < 0 || price > 99) {
            return BAD;
        }
        if (now.gloves.size() == 10) {
            return FULL;
        }
        now.gloves.add(new Thing(kind, side, size, price));
        return now.gloves.size() - 1;
    }

    int told(int glove, int what) {
        if (!is(glove) || what < 0 || what > 6) {
            return BAD;
        }
        Thing g = at(glove);
        return new int[] {g.kindNumber, g.side, g.size, g.price, g.wear, g.lost, g.kind().worth(g)}[what];
    }

    int as(int glove, int kind) {
        if (!is(glove) || kind < 0 || kind > 5) {
            return BAD;
        }
        return at(glove).isOf(kind) ? at(glove).price : KIND;
    }

    int turns(int glove, int kind) {
        if (!is(glove) || kind < 0 || kind > 5) {
            return BAD;
        }
        int was = at(glove).kindNumber;
        at(glove).kindNumber = kind;
        return was;
    }

    int set(int glove, int what, int v) {
        if (what < 1 || what > 5 || !is(glove) || v < 0 || v > new int[] {0, 1, 9, 99, 99, 1}[what]) {
            return BAD;
        }
        int was = told(glove, what);
        Thing g = at(glove);
        g.side = what == 1 ? v : g.side;
        g.size = what == 2 ? v : g.size;
        g.price = what == 3 ? v : g.price;
        g.wear = what == 4 ? v : g.wear;
        g.lost = what == 5 ? v : g.lost;
        return was;
    }

    int fits(int one, int other) {
        if (!is(one) || !is(other) || one == other) {
            return BAD;
        }
        return at(one).kind().fits(at(one), at(other)) ? 1 : 0;
    }

    int value(int one, int other) {
        if (!is(one) || !is(other) || one == other) {
            return BAD;
        }
        return Thing.pair(at(one), at(other)) ? now.value(at(one), at(other)) : NONE;
    }

    int deal(int n) {
        if (n < 1 || n > 10) {
            return BAD;
        }
        int came = 0;
        while (came < n && now.gloves.size() < 10) {
            int kind = now.draw(6);
            int side = now.draw(2);
            int size = now.draw(10);
            now.gloves.add(new Thing(kind, side, size, now.draw(100)));
            came++;
        }
        return came;
    }

    int seed(int v) {
        int was = now.z;
        now.z = v;
        return was;
    }

    int best(int set) {
        for (int i = 0; i < 32; i++) {
            if ((set >>> i & 1) == 1 && !is(i)) {
                return BAD;
            }
        }
        return now.bestOf(set);
    }

    int partner(int glove) {
        if (!is(glove)) {
            return BAD;
        }
        int partner = now.bestPairing(now.all())[glove];
        return partner < 0 ? NONE : partner;
    }

    int adds(int glove) {
        if (!is(glove)) {
            return BAD;
        }
        return now.bestOf(now.all()) - now.bestOf(now.all() - (1 << glove));
    }

    int leaves(int sheet) {
        if (sheet < 0 || sheet > 3) {
            return BAD;
        }
        if (sheets[sheet] == null) {
            return NOTHING;
        }
        int n = now.gloves.size();
        int[][] v = now.values();
        int[] partner = new int[n];
        for (int i = 0; i < n; i++) {
            partner[i] = -1;
            for (int j = 0; j < n; j++) {
                if (i != j && tells(sheet, i, j) && tells(sheet, j, i) && v[i][j] >= 0) {
                    partner[i] = j;
                }
            }
        }
        for (int i = 0; i < n; i++) {
            for (int j = i + 1; j < n; j++) {
                int hasI = partner[i] < 0 ? 0 : v[i][partner[i]];
                int hasJ = partner[j] < 0 ? 0 : v[j][partner[j]];
                if (v[i][j] >= 0 && partner[i] != j && v[i][j] > hasI && v[i][j] > hasJ) {
                    return 100 * i + j;
                }
            }
        }
        return NONE;
    }

    private boolean tells(int sheet, int place, int number) {
        return place < length(sheets[sheet]) && read(sheets[sheet], place) == number;
    }

    private static int length(Object row) {
        return row instanceof short[] s ? s.length : ((float[]) row).length;
    }

    private static double read(Object row, int place) {
        return row instanceof short[] s ? s[place] : ((float[]) row)[place];
    }

    int loss(int v) {
        if (v < 0 || v > 100) {
            return BAD;
        }
        int was = now.loss;
        now.loss = v;
        return was;
    }

    int days(int n) {
        if (n < 1 || n > 100) {
            return BAD;
        }
        int before = now.lost();
        for (int i = 0; i < n && now.day < 9999; i++) {
            now.day(null);
        }
        return now.lost() - before;
    }

    int behind(int n, int what) {
        if (n < 0 || n > 100 || what < 0 || what > 2) {
            return BAD;
        }
        World w = now.twin();
        for (int i = 0; i < n; i++) {
            w.day(null);
        }
        return what == 0 ? w.bestOf(w.all()) : what == 1 ? w.lost() : w.wear();
    }

    int keepHome(int n) {
        if (n < 1 || n > 30) {
            return BAD;
        }
        int most = -1;
        int keep = NONE;
        for (int home = 0; home < now.gloves.size(); home++) {
            World w = now.twin();
            for (int i = 0; i < n; i++) {
                w.day(w.gloves.get(home));
            }
            int value = w.bestOf(w.all());
            if (value > most) {
                most = value;
                keep = home;
            }
        }
        return keep;
    }

    int fine() {
        int text = now.textOf(2);
        if (text == NONE) {
            return now.lost();
        }
        Map<String, Integer> names = new HashMap<>();
        names.put("d", now.day);
        names.put("l", now.lost());
        return now.texts.get(text).give(names);
    }

    int worn(int left, int right) {
        if (left < 0 || left > 4 || right < 0 || right > 4) {
            return BAD;
        }
        if (now.worn.size() == 10) {
            return FULL;
        }
        now.worn.add(new int[] {left, right});
        return now.worn.size();
    }

    int forget() {
        int were = now.worn.size();
        now.worn.clear();
        return were;
    }

    private List<int[]> holding() {
        List<int[]> joins = new ArrayList<>();
        for (int code = 0; code < 3125; code++) {
            int[] join = {code % 5, code / 5 % 5, code / 25 % 5, code / 125 % 5, code / 625};
            int seen = 0;
            for (int r : join) {
                seen |= 1 << r;
            }
            boolean holds = seen == 31;
            for (int[] w : now.worn) {
                holds &= join[w[0]] == w[1];
            }
            if (holds) {
                joins.add(join);
            }
        }
        return joins;
    }

    int joins() {
        return holding().size();
    }

    int sure(int left) {
        if (left < 0 || left > 4) {
            return BAD;
        }
        int sure = NONE;
        for (int[] join : holding()) {
            if (sure != NONE && sure != join[left]) {
                return NONE;
            }
            sure = join[left];
        }
        return sure;
    }

    int better(int what) {
        if (what < 0 || what > 1) {
            return BAD;
        }
        if (holding().isEmpty()) {
            return NONE;
        }
        int told = -1;
        int least = Integer.MAX_VALUE;
        for (int left = 0; left < 5; left++) {
            int worst = 0;
            for (int right = 0; right < 5; right++) {
                now.worn.add(new int[] {left, right});
                worst = Math.max(worst, holding().size());
                now.worn.remove(now.worn.size() - 1);
            }
            if (worst < least) {
                least = worst;
                told = left;
            }
        }
        return what == 0 ? told : least;
    }

    int feed(int a, int b, int c) {
        if (tape.length() + 12 > 96) {
            return FULL;
        }
        for (int number : new int[] {a, b, c}) {
            tape.append((char) (number >>> 24)).append((char) (number >> 16 & 255));
            tape.append((char) (number >> 8 & 255)).append((char) (number & 255));
        }
        return tape.length();
    }

    int trim(int n) {
        if (n < 0 || n > tape.length()) {
            return BAD;
        }
        tape.setLength(n);
        return n;
    }

    int text() {
        String bytes = tape.toString();
        tape.setLength(0);
        try {
            Text text = parse(bytes);
            if (now.texts.size() == 14) {
                return FULL;
            }
            now.texts.add(text);
            return now.texts.size() - 1;
        } catch (Fault f) {
            return -100 - f.place;
        }
    }

    int textTold(int text, int what) {
        if (text < 0 || text >= now.texts.size() || what < 0 || what > 1) {
            return BAD;
        }
        return what == 0 ? now.texts.get(text).key : now.texts.get(text).operands();
    }

    int why(int key) {
        return key < 0 || key > 2 ? BAD : now.textOf(key);
    }

    int sheet(int sheet, int sort, int n) {
        if (sheet < 0 || sheet > 3 || sort < -1 || sort > 1 || sort >= 0 && n > 24) {
            return BAD;
        }
        try {
            sheets[sheet] = sort == -1 ? null : sort == 0 ? new short[n] : new float[n];
        } catch (NegativeArraySizeException e) {
            return SIZE;
        }
        return sort == -1 ? 0 : n;
    }

    int mark(int sheet, int place, int v) {
        if (sheet < 0 || sheet > 3) {
            return BAD;
        }
        Object row = sheets[sheet];
        if (row == null) {
            return NOTHING;
        }
        if (place < 0 || place >= length(row)) {
            return INDEX;
        }
        if (row instanceof short[] s) {
            if (v == NONE) {
                return KIND;
            }
            s[place] = (short) v;
            return 1;
        }
        if (v != NONE && Math.abs((long) v) > 99999) {
            return BAD;
        }
        ((float[]) row)[place] = v == NONE ? Float.NaN : v;
        return 1;
    }

    int pour(int sheet) {
        if (sheet < 0 || sheet > 3) {
            return BAD;
        }
        if (sheets[sheet] == null) {
            return NOTHING;
        }
        int otherwise = 0;
        for (int i = 0; i < now.gloves.size() && i < length(sheets[sheet]); i++) {
            double v = read(sheets[sheet], i);
            if (!Double.isNaN(v)) {
                int was = at(i).price;
                at(i).price = clamp((int) v, 99);
                otherwise += was == at(i).price ? 0 : 1;
            }
        }
        return otherwise;
    }

    int reads(int sheet) {
        if (sheet < 0 || sheet > 3) {
            return BAD;
        }
        if (sheets[sheet] == null) {
            return NOTHING;
        }
        for (int i = 0; i < length(sheets[sheet]); i++) {
            double v = read(sheets[sheet], i);
            if (!Double.isNaN(v) && !(is(i) && at(i).wear == v)) {
                return i;
            }
        }
        return NONE;
    }

    int copy(int from, int place, int to, int at, int many) {
        if (from < 0 || from > 3 || to < 0 || to > 3) {
            return BAD;
        }
        try {
            System.arraycopy(sheets[from], place, sheets[to], at, many);
            return many;
        } catch (NullPointerException e) {
            return NOTHING;
        } catch (ArrayStoreException e) {
            return KIND;
        } catch (IndexOutOfBoundsException e) {
            return INDEX;
        }
    }

    int lay(int slot, int thing, int k) {
        if (slot < 0 || slot > 4 || thing < 0 || thing > 3 || thing == 1 && !is(k) || thing == 2 && (k < 0 || k > 3)) {
            return BAD;
        }
        if (thing == 2 && sheets[k] == null) {
            return NOTHING;
        }
        Object held = slots[slot];
        slots[slot] = switch (thing) {
            case 0 -> null;
            case 1 -> at(k).twin();
            case 2 -> sheets[k] instanceof short[] s ? s.clone() : ((float[]) sheets[k]).clone();
            default -> Integer.valueOf(k);
        };
        return held == null ? 0 : held instanceof Thing ? 1 : held instanceof Integer ? 3 : 2;
    }

    int ask(int slot, int kind) {
        if (slot < 0 || slot > 4 || kind < 0 || kind > 5) {
            return BAD;
        }
        if (slots[slot] == null) {
            return NOTHING;
        }
        return slots[slot] instanceof Thing g && g.isOf(kind) ? g.kind().worth(g) : KIND;
    }

    int item(int slot, int place) {
        if (slot < 0 || slot > 4) {
            return BAD;
        }
        Object row = slots[slot];
        if (row == null) {
            return NOTHING;
        }
        if (row instanceof Thing || row instanceof Integer) {
            return KIND;
        }
        if (place < 0 || place >= length(row)) {
            return INDEX;
        }
        return Double.isNaN(read(row, place)) ? KIND : (int) read(row, place);
    }

    int rest(int slot, int n) {
        if (slot < 0 || slot > 4) {
            return BAD;
        }
        if (slots[slot] == null) {
            return NOTHING;
        }
        if (!(slots[slot] instanceof Integer)) {
            return KIND;
        }
        return n == 0 ? NO : (int) ((long) (Integer) slots[slot] % n);
    }

    int tell(int v) {
        if (waiting.size() == 60) {
            return FULL;
        }
        waiting.add(v);
        return waiting.size();
    }

    int check(int n) {
        List<Integer> told = waiting;
        waiting = new ArrayList<>();
        if (n < 1 || n > 30) {
            return BAD;
        }
        if (image == null) {
            return NO;
        }
        List<Integer> due = new ArrayList<>();
        World w = image.twin();
        for (int i = 0; i < n && w.day < 9999; i++) {
            w.day(null);
            due.add(w.lost());
            due.add(w.wear());
        }
        for (int i = 0; i < Math.max(told.size(), due.size()); i++) {
            if (i >= told.size() || i >= due.size() || !told.get(i).equals(due.get(i))) {
                return 1 + i;
            }
        }
        return 0;
    }

    int keep() {
        image = now.twin();
        return image.gloves.size();
    }

    int back() {
        if (image == null) {
            return NO;
        }
        now = image.twin();
        return now.gloves.size();
    }

    int count(int what) {
        if (what < 0 || what > 8) {
            return BAD;
        }
        return new int[] {now.gloves.size(), now.lost(), now.day, now.loss, now.worn.size(), now.texts.size(),
            waiting.size(), tape.length(), now.z}[what];
    }
}
