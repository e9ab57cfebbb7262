/**
 * Gloves of two guilds: their kinds, pairs, days, words, laws, sheets and images.
 *
 * All rows are made in the constructor and used again, so that no call makes an object.
 */
public final class TwoGuilds {
    public static final int BAD = -1000000001, NO = -1000000002, FULL = -1000000003, NONE = -1000000005, NOTHING = -1000000011, KIND = -1000000012, INDEX = -1000000013, SIZE = -1000000014;

    private static final int MOST_GLOVES = 10;
    private static final int MOST_SIZE = 9;
    private static final int MOST_PRICE = 99;
    private static final int MOST_WEAR = 99;
    private static final int MOST_VALUE = 999;
    private static final int MOST_GAIN = 20;
    private static final int MOST_LOSS = 100;
    private static final int LAST_DAY = 9999;

    private static final int KINDS = 6;
    private static final int LINED = 1;
    private static final int LOOSE = 2;
    private static final int FURRED = 3;
    private static final int FORGED = 4;
    private static final int MITTEN = 5;
    private static final int[] KIND_ABOVE = {-1, 0, 0, 1, 2, 0};

    private static final int WORDS = 5;
    private static final int JOINS = 120;
    private static final int MOST_WORN = 10;

    private static final int MOST_TEXTS = 14;
    private static final int MOST_BYTES = 96;
    private static final int BYTES_FED = 12;
    private static final int KEYS = 3;
    private static final int PAIR_KEY = 0;
    private static final int WEAR_KEY = 1;
    private static final int FINE_KEY = 2;

    private static final int SHEETS = 4;
    private static final int MOST_PLACES = 24;
    private static final int SHORTS = 0;
    private static final int FLOATS = 1;
    private static final int MISSING = -1;
    private static final int MOST_FLOAT = 99999;

    private static final int SLOTS = 5;
    private static final int HOLDS_NOTHING = 0;
    private static final int HOLDS_GLOVE = 1;
    private static final int HOLDS_SHEET = 2;
    private static final int HOLDS_NUMBER = 3;

    private static final int MOST_WAITING = 60;
    private static final int MOST_DAYS = 100;
    private static final int MOST_DAYS_TOLD = 30;
    private static final int NOBODY = -1;

    private final Guild now;
    private final Guild image;
    private final Guild thought;
    private boolean imageKept;
    private final Book book;
    private final Tape tape;
    private final Table table;
    private final Lexicon lexicon;
    private final Sheet[] sheets;
    private final Slot[] slots;
    private final int[] waiting;
    private int waitingCount;

    public TwoGuilds() {
        now = new Guild();
        image = new Guild();
        thought = new Guild();
        imageKept = false;
        book = new Book();
        tape = new Tape();
        table = new Table();
        lexicon = new Lexicon();
        sheets = new Sheet[SHEETS];
        for (int i = 0; i < SHEETS; i++) {
            sheets[i] = new Sheet();
        }
        slots = new Slot[SLOTS];
        for (int i = 0; i < SLOTS; i++) {
            slots[i] = new Slot();
        }
        waiting = new int[MOST_WAITING];
        waitingCount = 0;
    }

    // ---- gloves

    public int glove(int kind, int side, int size, int price) {
        if (!isKind(kind) || !within(side, 0, 1) || !within(size, 0, MOST_SIZE) || !within(price, 0, MOST_PRICE)) {
            return BAD;
        }
        return now.addGlove(kind, side, size, price);
    }

    public int told(int glove, int what) {
        if (!now.hasGlove(glove)) {
            return BAD;
        }
        Glove g = now.gloves[glove];
        switch (what) {
            case 0:
                return g.kind;
            case 6:
                return g.worth();
            default:
                return within(what, 1, 5) ? g.trait(what) : BAD;
        }
    }

    public int as(int glove, int kind) {
        if (!now.hasGlove(glove) || !isKind(kind)) {
            return BAD;
        }
        Glove g = now.gloves[glove];
        return g.isOf(kind) ? g.price : KIND;
    }

    public int turns(int glove, int kind) {
        if (!now.hasGlove(glove) || !isKind(kind)) {
            return BAD;
        }
        Glove g = now.gloves[glove];
        int was = g.kind;
        g.kind = kind;
        return was;
    }

    public int set(int glove, int what, int v) {
        if (!now.hasGlove(glove) || !within(what, 1, 5) || !within(v, 0, mostOfTrait(what))) {
            return BAD;
        }
        Glove g = now.gloves[glove];
        int was = g.trait(what);
        g.changeTrait(what, v);
        return was;
    }

    public int fits(int one, int other) {
        if (!areTwoGloves(one, other)) {
            return BAD;
        }
        return now.gloves[one].suits(now.gloves[other]) ? 1 : 0;
    }

    public int value(int one, int other) {
        if (!areTwoGloves(one, other)) {
            return BAD;
        }
        int worth = now.pairValue(one, other, book);
        return worth < 0 ? NONE : worth;
    }

    public int deal(int n) {
        if (!within(n, 1, MOST_GLOVES)) {
            return BAD;
        }
        int came = Math.min(n, MOST_GLOVES - now.gloveCount);
        for (int i = 0; i < came; i++) {
            now.drawGlove();
        }
        return came;
    }

    public int seed(int v) {
        int was = now.z;
        now.z = v;
        return was;
    }

    // ---- the table

    public int best(int set) {
        if (!within(set, 0, now.allGloves())) {
            return BAD;
        }
        table.weigh(now, book);
        table.pairUp();
        return table.valueOfSet(set);
    }

    public int partner(int glove) {
        if (!now.hasGlove(glove)) {
            return BAD;
        }
        table.weigh(now, book);
        table.pairUp();
        int mate = table.mateOf(glove);
        return mate == NOBODY ? NONE : mate;
    }

    public int adds(int glove) {
        if (!now.hasGlove(glove)) {
            return BAD;
        }
        table.weigh(now, book);
        table.pairUp();
        int all = now.allGloves();
        return table.valueOfSet(all) - table.valueOfSet(all & ~(1 << glove));
    }

    public int leaves(int sheet) {
        if (!within(sheet, 0, SHEETS - 1)) {
            return BAD;
        }
        if (sheets[sheet].isMissing()) {
            return NOTHING;
        }
        table.weigh(now, book);
        table.seat(sheets[sheet]);
        return table.firstToLeave();
    }

    // ---- days

    public int loss(int v) {
        if (!within(v, 0, MOST_LOSS)) {
            return BAD;
        }
        int was = now.loss;
        now.loss = v;
        return was;
    }

    public int days(int n) {
        if (!within(n, 1, MOST_DAYS)) {
            return BAD;
        }
        int before = now.lostCount();
        now.live(Math.min(n, LAST_DAY - now.day), NOBODY, book);
        return now.lostCount() - before;
    }

    public int behind(int n, int what) {
        if (!within(n, 0, MOST_DAYS) || !within(what, 0, 2)) {
            return BAD;
        }
        thought.takeAfter(now);
        thought.live(n, NOBODY, book);
        switch (what) {
            case 0:
                return bestOfThought();
            case 1:
                return thought.lostCount();
            default:
                return thought.wearOfAll();
        }
    }

    public int keepHome(int n) {
        if (!within(n, 1, MOST_DAYS_TOLD)) {
            return BAD;
        }
        int kept = NONE;
        int greatest = -1;
        for (int home = 0; home < now.gloveCount; home++) {
            thought.takeAfter(now);
            thought.live(n, home, book);
            int worth = bestOfThought();
            if (worth > greatest) {
                greatest = worth;
                kept = home;
            }
        }
        return kept;
    }

    public int fine() {
        int text = now.textOfKey[FINE_KEY];
        int lost = now.lostCount();
        return text == NOBODY ? lost : book.give(text, now.day, lost, 0);
    }

    // ---- words

    public int worn(int left, int right) {
        if (!isWord(left) || !isWord(right)) {
            return BAD;
        }
        return now.addWorn(left, right);
    }

    public int forget() {
        int were = now.wornCount;
        now.wornCount = 0;
        return were;
    }

    public int joins() {
        lexicon.tally(now);
        return lexicon.holding;
    }

    public int sure(int left) {
        if (!isWord(left)) {
            return BAD;
        }
        lexicon.tally(now);
        return lexicon.meaningOf(left);
    }

    public int better(int what) {
        if (!within(what, 0, 1)) {
            return BAD;
        }
        lexicon.tally(now);
        if (lexicon.holding == 0) {
            return NONE;
        }
        int left = lexicon.betterTold();
        return what == 0 ? left : lexicon.worstOf(left);
    }

    // ---- texts

    public int feed(int a, int b, int c) {
        if (tape.length + BYTES_FED > MOST_BYTES) {
            return FULL;
        }
        tape.addBytes(a);
        tape.addBytes(b);
        tape.addBytes(c);
        return tape.length;
    }

    public int trim(int n) {
        if (!within(n, 0, tape.length)) {
            return BAD;
        }
        tape.length = n;
        return n;
    }

    public int text() {
        Law law = book.lawOf(now.textCount);
        int fault = tape.read(law);
        tape.length = 0;
        return fault >= 0 ? -100 - fault : now.addText(law.key);
    }

    public int textTold(int text, int what) {
        if (!within(text, 0, now.textCount - 1) || !within(what, 0, 1)) {
            return BAD;
        }
        Law law = book.lawOf(text);
        return what == 0 ? law.key : law.operands;
    }

    public int why(int key) {
        if (!within(key, 0, KEYS - 1)) {
            return BAD;
        }
        int text = now.textOfKey[key];
        return text == NOBODY ? NONE : text;
    }

    // ---- sheets, slots

    public int sheet(int sheet, int sort, int n) {
        if (!within(sheet, 0, SHEETS - 1) || !within(sort, MISSING, FLOATS)) {
            return BAD;
        }
        if (sort == MISSING) {
            sheets[sheet].become(MISSING, 0);
            return 0;
        }
        if (n > MOST_PLACES) {
            return BAD;
        }
        if (n < 0) {
            return SIZE;
        }
        sheets[sheet].become(sort, n);
        return n;
    }

    public int mark(int sheet, int place, int v) {
        if (!within(sheet, 0, SHEETS - 1)) {
            return BAD;
        }
        Sheet s = sheets[sheet];
        if (s.isMissing()) {
            return NOTHING;
        }
        if (!s.hasPlace(place)) {
            return INDEX;
        }
        if (s.sort == SHORTS && v == NONE) {
            return KIND;
        }
        if (s.sort == FLOATS && v != NONE && !within(v, -MOST_FLOAT, MOST_FLOAT)) {
            return BAD;
        }
        s.cells[place] = s.sort == SHORTS ? (short) v : v;
        return 1;
    }

    public int pour(int sheet) {
        if (!within(sheet, 0, SHEETS - 1)) {
            return BAD;
        }
        Sheet s = sheets[sheet];
        if (s.isMissing()) {
            return NOTHING;
        }
        int otherwise = 0;
        for (int i = 0; i < now.gloveCount; i++) {
            if (s.hasNumber(i)) {
                int price = held(s.cells[i], MOST_PRICE);
                if (now.gloves[i].price != price) {
                    otherwise++;
                }
                now.gloves[i].price = price;
            }
        }
        return otherwise;
    }

    public int reads(int sheet) {
        if (!within(sheet, 0, SHEETS - 1)) {
            return BAD;
        }
        Sheet s = sheets[sheet];
        if (s.isMissing()) {
            return NOTHING;
        }
        for (int i = 0; i < s.places; i++) {
            if (s.hasNumber(i) && (!now.hasGlove(i) || s.cells[i] != now.gloves[i].wear)) {
                return i;
            }
        }
        return NONE;
    }

    public int copy(int from, int place, int to, int at, int many) {
        if (!within(from, 0, SHEETS - 1) || !within(to, 0, SHEETS - 1)) {
            return BAD;
        }
        Sheet source = sheets[from];
        Sheet target = sheets[to];
        if (source.isMissing() || target.isMissing()) {
            return NOTHING;
        }
        if (source.sort != target.sort) {
            return KIND;
        }
        if (!source.hasPlaces(place, many) || !target.hasPlaces(at, many)) {
            return INDEX;
        }
        System.arraycopy(source.cells, place, target.cells, at, many);
        return many;
    }

    public int lay(int slot, int thing, int k) {
        if (!isSlot(slot) || !within(thing, HOLDS_NOTHING, HOLDS_NUMBER) || !isThere(thing, k)) {
            return BAD;
        }
        if (thing == HOLDS_SHEET && sheets[k].isMissing()) {
            return NOTHING;
        }
        Slot s = slots[slot];
        int held = s.thing;
        s.thing = thing;
        if (thing == HOLDS_GLOVE) {
            s.glove.takeAfter(now.gloves[k]);
        } else if (thing == HOLDS_SHEET) {
            s.sheet.takeAfter(sheets[k]);
        } else if (thing == HOLDS_NUMBER) {
            s.number = k;
        }
        return held;
    }

    public int ask(int slot, int kind) {
        if (!isSlot(slot) || !isKind(kind)) {
            return BAD;
        }
        Slot s = slots[slot];
        int finding = s.findingFor(HOLDS_GLOVE);
        if (finding != 0) {
            return finding;
        }
        return s.glove.isOf(kind) ? s.glove.worth() : KIND;
    }

    public int item(int slot, int place) {
        if (!isSlot(slot)) {
            return BAD;
        }
        Slot s = slots[slot];
        int finding = s.findingFor(HOLDS_SHEET);
        if (finding != 0) {
            return finding;
        }
        if (!s.sheet.hasPlace(place)) {
            return INDEX;
        }
        return s.sheet.hasNumber(place) ? s.sheet.cells[place] : KIND;
    }

    public int rest(int slot, int n) {
        if (!isSlot(slot)) {
            return BAD;
        }
        Slot s = slots[slot];
        int finding = s.findingFor(HOLDS_NUMBER);
        if (finding != 0) {
            return finding;
        }
        return n == 0 ? NO : s.number % n;
    }

    // ---- rows, images

    public int tell(int v) {
        if (waitingCount >= MOST_WAITING) {
            return FULL;
        }
        waiting[waitingCount] = v;
        waitingCount++;
        return waitingCount;
    }

    public int check(int n) {
        int told = waitingCount;
        waitingCount = 0;
        if (!within(n, 1, MOST_DAYS_TOLD)) {
            return BAD;
        }
        if (!imageKept) {
            return NO;
        }
        thought.takeAfter(image);
        int days = Math.min(n, LAST_DAY - image.day);
        for (int i = 0; i < days; i++) {
            thought.live(1, NOBODY, book);
            if (!isTold(2 * i, told, thought.lostCount())) {
                return 1 + 2 * i;
            }
            if (!isTold(2 * i + 1, told, thought.wearOfAll())) {
                return 2 + 2 * i;
            }
        }
        return told > 2 * days ? 1 + 2 * days : 0;
    }

    public int keep() {
        image.takeAfter(now);
        imageKept = true;
        return now.gloveCount;
    }

    public int back() {
        if (!imageKept) {
            return NO;
        }
        now.takeAfter(image);
        return now.gloveCount;
    }

    public int count(int what) {
        switch (what) {
            case 0:
                return now.gloveCount;
            case 1:
                return now.lostCount();
            case 2:
                return now.day;
            case 3:
                return now.loss;
            case 4:
                return now.wornCount;
            case 5:
                return now.textCount;
            case 6:
                return waitingCount;
            case 7:
                return tape.length;
            case 8:
                return now.z;
            default:
                return BAD;
        }
    }

    // ---- helpers

    private static boolean within(int v, int least, int most) {
        return v >= least && v <= most;
    }

    private static int held(int v, int most) {
        return Math.max(0, Math.min(v, most));
    }

    private static boolean isKind(int kind) {
        return within(kind, 0, KINDS - 1);
    }

    private static boolean isWord(int word) {
        return within(word, 0, WORDS - 1);
    }

    private static boolean isSlot(int slot) {
        return within(slot, 0, SLOTS - 1);
    }

    private static int mostOfTrait(int what) {
        switch (what) {
            case 2:
                return MOST_SIZE;
            case 3:
                return MOST_PRICE;
            case 4:
                return MOST_WEAR;
            default:
                return 1;
        }
    }

    private boolean areTwoGloves(int one, int other) {
        return now.hasGlove(one) && now.hasGlove(other) && one != other;
    }

    private boolean isThere(int thing, int k) {
        if (thing == HOLDS_GLOVE) {
            return now.hasGlove(k);
        }
        return thing != HOLDS_SHEET || within(k, 0, SHEETS - 1);
    }

    private boolean isTold(int place, int told, int due) {
        return place < told && place < MOST_WAITING && waiting[place] == due;
    }

    private int bestOfThought() {
        table.weigh(thought, book);
        table.pairUp();
        return table.valueOfSet(thought.allGloves());
    }

    private static final class Glove {
        int kind;
        int side;
        int size;
        int price;
        int wear;
        boolean lost;

        void become(int newKind, int newSide, int newSize, int newPrice) {
            kind = newKind;
            side = newSide;
            size = newSize;
            price = newPrice;
            wear = 0;
            lost = false;
        }

        void takeAfter(Glove other) {
            become(other.kind, other.side, other.size, other.price);
            wear = other.wear;
            lost = other.lost;
        }

        int trait(int what) {
            switch (what) {
                case 1:
                    return side;
                case 2:
                    return size;
                case 3:
                    return price;
                case 4:
                    return wear;
                default:
                    return lost ? 1 : 0;
            }
        }

        void changeTrait(int what, int v) {
            switch (what) {
                case 1:
                    side = v;
                    break;
                case 2:
                    size = v;
                    break;
                case 3:
                    price = v;
                    break;
                case 4:
                    wear = v;
                    break;
                default:
                    lost = v == 1;
                    break;
            }
        }

        boolean isOf(int wanted) {
            int k = kind;
            for (int i = 0; i < KINDS && isKind(k); i++) {
                if (k == wanted) {
                    return true;
                }
                k = KIND_ABOVE[k];
            }
            return false;
        }

        int worth() {
            switch (kind) {
                case LINED:
                    return price + 5;
                case FURRED:
                    return 2 * (price + 5);
                case LOOSE:
                    return 99 - price;
                case FORGED:
                    return 99 - price - 3;
                case MITTEN:
                    return 8;
                default:
                    return price;
            }
        }

        boolean suits(Glove other) {
            switch (kind) {
                case LINED:
                    return suitsAsLined(other);
                case FURRED:
                    return suitsAsLined(other) && other.price >= price / 2;
                case LOOSE:
                    return suitsAsLoose(other);
                case FORGED:
                    return suitsAsLoose(other) && other.kind != FORGED;
                case MITTEN:
                    return true;
                default:
                    return size == other.size;
            }
        }

        boolean suitsAsLined(Glove other) {
            return size == other.size && wear < 50 && other.wear < 50;
        }

        boolean suitsAsLoose(Glove other) {
            return size - other.size <= 1 && other.size - size <= 1;
        }

        boolean pairsWith(Glove other) {
            boolean sidesGo = side != other.side || kind == FORGED || other.kind == FORGED;
            return !lost && !other.lost && sidesGo && suits(other) && other.suits(this);
        }
    }

    /** All that an image keeps. */
    private static final class Guild {
        final Glove[] gloves;
        int gloveCount;
        int loss;
        int day;
        int z;
        final int[] wornLeft;
        final int[] wornRight;
        int wornCount;
        int textCount;
        final int[] textOfKey;

        Guild() {
            gloves = new Glove[MOST_GLOVES];
            for (int i = 0; i < MOST_GLOVES; i++) {
                gloves[i] = new Glove();
            }
            gloveCount = 0;
            loss = 5;
            day = 0;
            z = 1;
            wornLeft = new int[MOST_WORN];
            wornRight = new int[MOST_WORN];
            wornCount = 0;
            textCount = 0;
            textOfKey = new int[KEYS];
            for (int i = 0; i < KEYS; i++) {
                textOfKey[i] = NOBODY;
            }
        }

        void takeAfter(Guild other) {
            gloveCount = other.gloveCount;
            for (int i = 0; i < gloveCount; i++) {
                gloves[i].takeAfter(other.gloves[i]);
            }
            loss = other.loss;
            day = other.day;
            z = other.z;
            wornCount = other.wornCount;
            for (int i = 0; i < wornCount; i++) {
                wornLeft[i] = other.wornLeft[i];
                wornRight[i] = other.wornRight[i];
            }
            textCount = other.textCount;
            for (int i = 0; i < KEYS; i++) {
                textOfKey[i] = other.textOfKey[i];
            }
        }

        boolean hasGlove(int glove) {
            return within(glove, 0, gloveCount - 1);
        }

        int allGloves() {
            return (1 << gloveCount) - 1;
        }

        /** The number of the new glove, or FULL. */
        int addGlove(int kind, int side, int size, int price) {
            int number = gloveCount;
            if (number >= MOST_GLOVES) {
                return FULL;
            }
            gloves[number].become(kind, side, size, price);
            gloveCount++;
            return number;
        }

        void drawGlove() {
            int kind = draw() % KINDS;
            int side = draw() % 2;
            int size = draw() % 10;
            int price = draw() % 100;
            addGlove(kind, side, size, price);
        }

        int draw() {
            z = z * 1103515245 + 12345;
            return z >>> 8;
        }

        /** How many there are then, or FULL. */
        int addWorn(int left, int right) {
            if (wornCount >= MOST_WORN) {
                return FULL;
            }
            wornLeft[wornCount] = left;
            wornRight[wornCount] = right;
            wornCount++;
            return wornCount;
        }

        /** The number of the new text, or FULL. */
        int addText(int key) {
            int number = textCount;
            if (number >= MOST_TEXTS) {
                return FULL;
            }
            textOfKey[key] = number;
            textCount++;
            return number;
        }

        int lostCount() {
            int lost = 0;
            for (int i = 0; i < gloveCount; i++) {
                if (gloves[i].lost) {
                    lost++;
                }
            }
            return lost;
        }

        int wearOfAll() {
            int wear = 0;
            for (int i = 0; i < gloveCount; i++) {
                if (!gloves[i].lost) {
                    wear += gloves[i].wear;
                }
            }
            return wear;
        }

        /** VALUE of two gloves, or less than 0 if they are no PAIR. */
        int pairValue(int one, int other, Book book) {
            Glove g = gloves[one];
            Glove h = gloves[other];
            if (!g.pairsWith(h)) {
                return -1;
            }
            int wears = g.wear + h.wear;
            int text = textOfKey[PAIR_KEY];
            if (text == NOBODY) {
                return Math.max(0, g.price + h.price - wears / 10);
            }
            int lesser = Math.min(g.price, h.price);
            int greater = Math.max(g.price, h.price);
            return held(book.give(text, lesser, greater, wears), MOST_VALUE);
        }

        void live(int days, int home, Book book) {
            for (int i = 0; i < days; i++) {
                for (int k = 0; k < gloveCount; k++) {
                    if (k != home && !gloves[k].lost) {
                        wearOut(gloves[k], book);
                    }
                }
                day++;
            }
        }

        void wearOut(Glove g, Book book) {
            int x = draw() % 10;
            int text = textOfKey[WEAR_KEY];
            int gain = text == NOBODY ? x / 4 : held(book.give(text, x, g.price, 0), MOST_GAIN);
            g.wear = Math.min(MOST_WEAR, g.wear + gain);
            if (draw() % 100 < loss) {
                g.lost = true;
            }
        }
    }

    /** VALUES of all pairs, and of the best pairing of each set of gloves. */
    private static final class Table {
        private static final int NO_PAIR = -1;

        final int[] values;
        final int[] bests;
        final int[] seated;
        int many;

        Table() {
            values = new int[MOST_GLOVES * MOST_GLOVES];
            bests = new int[1 << MOST_GLOVES];
            seated = new int[MOST_GLOVES];
            many = 0;
        }

        void weigh(Guild guild, Book book) {
            many = guild.gloveCount;
            for (int i = 0; i < many; i++) {
                for (int j = i + 1; j < many; j++) {
                    int worth = guild.pairValue(i, j, book);
                    values[i * MOST_GLOVES + j] = worth;
                    values[j * MOST_GLOVES + i] = worth;
                }
            }
        }

        /** Sets go by their highest glove, so that all smaller sets stand already. */
        void pairUp() {
            bests[0] = 0;
            for (int high = 0; high < many; high++) {
                int bit = 1 << high;
                for (int others = 0; others < bit; others++) {
                    bests[bit | others] = bestWith(high, others);
                }
            }
        }

        int bestWith(int high, int others) {
            int greatest = bests[others];
            for (int mate = 0; mate < high; mate++) {
                int worth = values[high * MOST_GLOVES + mate];
                if ((others >> mate & 1) == 1 && worth != NO_PAIR) {
                    greatest = Math.max(greatest, worth + bests[others & ~(1 << mate)]);
                }
            }
            return greatest;
        }

        int valueOfSet(int set) {
            return within(set, 0, bests.length - 1) ? bests[set] : 0;
        }

        /** Gives out partners from glove 0 on, which is the order that decides among equals. */
        int mateOf(int glove) {
            int left = (1 << many) - 1;
            for (int i = 0; i < many; i++) {
                if ((left >> i & 1) == 1) {
                    int mate = leastMate(i, left);
                    if (i == glove) {
                        return mate;
                    }
                    if (mate == glove) {
                        return i;
                    }
                    left &= ~(1 << i);
                    if (mate != NOBODY) {
                        left &= ~(1 << mate);
                    }
                }
            }
            return NOBODY;
        }

        /** The least partner of the least glove of a set by which the set keeps its value. */
        int leastMate(int least, int set) {
            for (int mate = least + 1; mate < many; mate++) {
                int worth = values[least * MOST_GLOVES + mate];
                if ((set >> mate & 1) == 1 && worth != NO_PAIR) {
                    int others = set & ~(1 << least) & ~(1 << mate);
                    if (worth + bests[others] == bests[set]) {
                        return mate;
                    }
                }
            }
            return NOBODY;
        }

        void seat(Sheet sheet) {
            for (int i = 0; i < many; i++) {
                seated[i] = toldMate(i, sheet);
            }
        }

        int toldMate(int glove, Sheet sheet) {
            if (!sheet.hasNumber(glove)) {
                return NOBODY;
            }
            int mate = sheet.cells[glove];
            if (!within(mate, 0, many - 1) || mate == glove) {
                return NOBODY;
            }
            boolean mutual = sheet.hasNumber(mate) && sheet.cells[mate] == glove;
            return mutual && values[glove * MOST_GLOVES + mate] != NO_PAIR ? mate : NOBODY;
        }

        int valueSeated(int glove) {
            int mate = seated[glove];
            return mate == NOBODY ? 0 : values[glove * MOST_GLOVES + mate];
        }

        int firstToLeave() {
            for (int i = 0; i < many; i++) {
                for (int j = i + 1; j < many; j++) {
                    int worth = values[i * MOST_GLOVES + j];
                    if (seated[i] != j && worth > valueSeated(i) && worth > valueSeated(j)) {
                        return 100 * i + j;
                    }
                }
            }
            return NONE;
        }
    }

    /** All joins of words, and how many of those that hold give each word which. */
    private static final class Lexicon {
        final int[] rights;
        final int[] givers;
        int holding;

        Lexicon() {
            rights = new int[JOINS * WORDS];
            givers = new int[WORDS * WORDS];
            holding = 0;
            for (int join = 0; join < JOINS; join++) {
                int code = join;
                int used = 0;
                for (int left = 0; left < WORDS; left++) {
                    int free = WORDS - left;
                    int right = freeWord(used, code % free);
                    code /= free;
                    used |= 1 << right;
                    rights[join * WORDS + left] = right;
                }
            }
        }

        private static int freeWord(int used, int skip) {
            int toSkip = skip;
            for (int right = 0; right < WORDS; right++) {
                if ((used >> right & 1) == 0) {
                    if (toSkip == 0) {
                        return right;
                    }
                    toSkip--;
                }
            }
            return 0;
        }

        void tally(Guild guild) {
            holding = 0;
            for (int i = 0; i < givers.length; i++) {
                givers[i] = 0;
            }
            for (int join = 0; join < JOINS; join++) {
                if (holds(join, guild)) {
                    holding++;
                    for (int left = 0; left < WORDS; left++) {
                        givers[left * WORDS + rights[join * WORDS + left]]++;
                    }
                }
            }
        }

        boolean holds(int join, Guild guild) {
            for (int i = 0; i < guild.wornCount; i++) {
                if (rights[join * WORDS + guild.wornLeft[i]] != guild.wornRight[i]) {
                    return false;
                }
            }
            return true;
        }

        int meaningOf(int left) {
            for (int right = 0; right < WORDS; right++) {
                if (holding > 0 && givers[left * WORDS + right] == holding) {
                    return right;
                }
            }
            return NONE;
        }

        int worstOf(int left) {
            int worst = 0;
            for (int right = 0; right < WORDS; right++) {
                worst = Math.max(worst, givers[left * WORDS + right]);
            }
            return worst;
        }

        int betterTold() {
            int told = 0;
            for (int left = 1; left < WORDS; left++) {
                if (worstOf(left) < worstOf(told)) {
                    told = left;
                }
            }
            return told;
        }
    }

    /**
     * A text as it is worked out, what works behind what it works on: a number is
     * itself, a name -1 less its place among the key's names, a sign its byte below 0.
     */
    private static final class Law {
        int key;
        int operands;
        final int[] code;
        int length;

        Law() {
            code = new int[MOST_BYTES];
            key = PAIR_KEY;
            operands = 0;
            length = 0;
        }

        void begin(int newKey) {
            key = newKey;
            operands = 0;
            length = 0;
        }

        void addOperand(int c) {
            operands++;
            addCode(c);
        }

        void addCode(int c) {
            if (length < MOST_BYTES) {
                code[length] = c;
                length++;
            }
        }
    }

    /**
     * The laws by their numbers. An image needs no laws of its own: those it counts are
     * always the first ones of those that count now, and no law that counts is written to.
     */
    private static final class Book {
        private static final int LAST_NAME = -3;

        final Law[] laws;
        final Law spare;
        final int[] stack;

        Book() {
            laws = new Law[MOST_TEXTS];
            for (int i = 0; i < MOST_TEXTS; i++) {
                laws[i] = new Law();
            }
            spare = new Law();
            stack = new int[MOST_BYTES];
        }

        /** The spare one is for a text that there is no room for: its fault is told ahead of FULL. */
        Law lawOf(int text) {
            return within(text, 0, MOST_TEXTS - 1) ? laws[text] : spare;
        }

        int give(int text, int first, int second, int third) {
            Law law = lawOf(text);
            int top = 0;
            for (int i = 0; i < law.length && top < MOST_BYTES; i++) {
                int c = law.code[i];
                if (c >= LAST_NAME) {
                    stack[top] = operand(c, first, second, third);
                    top++;
                } else if (c == -'!') {
                    if (top >= 1) {
                        stack[top - 1] = stack[top - 1] == 0 ? 1 : 0;
                    }
                } else if (top >= 2) {
                    top--;
                    stack[top - 1] = worked(-c, stack[top - 1], stack[top]);
                }
            }
            return stack[0];
        }

        private static int operand(int c, int first, int second, int third) {
            switch (c) {
                case -1:
                    return first;
                case -2:
                    return second;
                case -3:
                    return third;
                default:
                    return c;
            }
        }

        private static int worked(int sign, int a, int b) {
            switch (sign) {
                case '*':
                    return a * b;
                case '/':
                    return b == 0 ? 0 : a / b;
                case '+':
                    return a + b;
                case '-':
                    return a - b;
                case '<':
                    return a < b ? 1 : 0;
                case '=':
                    return a == b ? 1 : 0;
                case '>':
                    return a > b ? 1 : 0;
                case '&':
                    return a != 0 && b != 0 ? 1 : 0;
                default:
                    return a != 0 || b != 0 ? 1 : 0;
            }
        }
    }

    /** The bytes, and their reading as a text; once there is a fault, nothing more is read. */
    private static final class Tape {
        private static final int END = 0;
        private static final int LETTERS = 1;
        private static final int DIGITS = 2;
        private static final int SIGN = 3;

        private static final int OR = 0;
        private static final int AND = 1;
        private static final int TEST = 2;
        private static final int SUM = 3;
        private static final int TERM = 4;
        private static final int PIECE = 5;

        private static final int NO_FAULT = -1;
        private static final int MOST_OPEN = 8;
        private static final int MOST_DIGITS = 4;
        private static final int BLANK = 32;

        final int[] bytes;
        int length;
        Law law;
        int fault;
        int sort;
        int start;
        int end;

        Tape() {
            bytes = new int[MOST_BYTES];
            length = 0;
            law = new Law();
            fault = NO_FAULT;
            sort = END;
            start = 0;
            end = 0;
        }

        void addBytes(int number) {
            for (int shift = 24; shift >= 0 && length < MOST_BYTES; shift -= 8) {
                bytes[length] = (number >>> shift) & 255;
                length++;
            }
        }

        /** The place of the fault, or less than 0 if the law stands. */
        int read(Law empty) {
            begin(empty);
            next();
            key();
            next();
            level(OR, 0, 0);
            if (sort != END) {
                refuse();
            }
            return fault;
        }

        private void begin(Law empty) {
            law = empty;
            fault = NO_FAULT;
            sort = END;
            start = 0;
            end = 0;
        }

        private void refuse() {
            if (fault == NO_FAULT) {
                fault = start;
            }
        }

        private void next() {
            if (fault != NO_FAULT) {
                return;
            }
            boolean behindWord = sort == LETTERS || sort == DIGITS;
            int from = end;
            start = from;
            while (start < length && bytes[start] == BLANK) {
                start++;
            }
            end = start;
            sort = sortAt(start);
            if (sort == SIGN) {
                end++;
            } else {
                while (end < length && sortAt(end) == sort) {
                    end++;
                }
            }
            boolean needsBlank = behindWord && start == from && (sort == LETTERS || sort == DIGITS);
            boolean tooLong = sort == DIGITS && end - start > MOST_DIGITS;
            if (needsBlank || tooLong) {
                refuse();
            }
        }

        private int sortAt(int place) {
            if (place < 0 || place >= length) {
                return END;
            }
            int b = bytes[place];
            if (b >= 'a' && b <= 'z') {
                return LETTERS;
            }
            return b >= '0' && b <= '9' ? DIGITS : SIGN;
        }

        /** The sign that is read, or less than 0 if it is none. */
        private int sign() {
            return sort == SIGN && start < length ? bytes[start] : -1;
        }

        private void key() {
            if (wordIs("pair")) {
                law.begin(PAIR_KEY);
            } else if (wordIs("wear")) {
                law.begin(WEAR_KEY);
            } else if (wordIs("fine")) {
                law.begin(FINE_KEY);
            } else {
                refuse();
            }
        }

        private boolean wordIs(String word) {
            if (sort != LETTERS || end - start != word.length()) {
                return false;
            }
            for (int i = 0; i < word.length(); i++) {
                if (bytes[start + i] != word.charAt(i)) {
                    return false;
                }
            }
            return true;
        }

        /** One method for all levels from OR to TERM, as they are alike but for their signs. */
        private void level(int level, int opens, int nots) {
            if (level >= PIECE) {
                piece(opens, nots);
                return;
            }
            level(level + 1, opens, nots);
            for (int i = 0; i < MOST_BYTES && fault == NO_FAULT && levelOf(sign()) == level; i++) {
                int sign = sign();
                next();
                level(level + 1, opens, nots);
                law.addCode(-sign);
                if (level == TEST) {
                    return;
                }
            }
        }

        private static int levelOf(int sign) {
            switch (sign) {
                case '|':
                    return OR;
                case '&':
                    return AND;
                case '<':
                case '=':
                case '>':
                    return TEST;
                case '+':
                case '-':
                    return SUM;
                case '*':
                case '/':
                    return TERM;
                default:
                    return -1;
            }
        }

        private void piece(int opens, int nots) {
            if (fault != NO_FAULT) {
                return;
            }
            if (sort == DIGITS) {
                law.addOperand(number());
                next();
            } else if (sort == LETTERS) {
                name();
            } else if (sign() == '!' && nots < MOST_OPEN) {
                next();
                piece(opens, nots + 1);
                law.addCode(-'!');
            } else if (sign() == '(' && opens < MOST_OPEN) {
                next();
                level(OR, opens + 1, nots);
                close();
            } else {
                refuse();
            }
        }

        private void close() {
            if (sign() == ')') {
                next();
            } else {
                refuse();
            }
        }

        private int number() {
            int number = 0;
            for (int i = start; i < end && i < length; i++) {
                number = number * 10 + bytes[i] - '0';
            }
            return number;
        }

        private void name() {
            int place = end - start == 1 ? names(law.key).indexOf((char) bytes[start]) : -1;
            if (place < 0) {
                refuse();
                return;
            }
            law.addOperand(-1 - place);
            next();
        }

        private static String names(int key) {
            switch (key) {
                case PAIR_KEY:
                    return "abw";
                case WEAR_KEY:
                    return "xp";
                default:
                    return "dl";
            }
        }
    }

    /** A row of places; NONE in a cell is NO NUMBER, as no number of a place is so low. */
    private static final class Sheet {
        int sort;
        int places;
        final int[] cells;

        Sheet() {
            sort = MISSING;
            places = 0;
            cells = new int[MOST_PLACES];
        }

        void become(int newSort, int newPlaces) {
            sort = newSort;
            places = newPlaces;
            for (int i = 0; i < MOST_PLACES; i++) {
                cells[i] = 0;
            }
        }

        void takeAfter(Sheet other) {
            sort = other.sort;
            places = other.places;
            System.arraycopy(other.cells, 0, cells, 0, MOST_PLACES);
        }

        boolean isMissing() {
            return sort == MISSING;
        }

        boolean hasPlace(int place) {
            return within(place, 0, places - 1);
        }

        boolean hasPlaces(int from, int many) {
            return within(from, 0, places) && within(many, 0, places - from);
        }

        boolean hasNumber(int place) {
            return hasPlace(place) && cells[place] != NONE;
        }
    }

    private static final class Slot {
        int thing;
        final Glove glove;
        final Sheet sheet;
        int number;

        Slot() {
            thing = HOLDS_NOTHING;
            glove = new Glove();
            sheet = new Sheet();
            number = 0;
        }

        /** 0 if the slot holds what is wanted. */
        int findingFor(int wanted) {
            if (thing == HOLDS_NOTHING) {
                return NOTHING;
            }
            return thing == wanted ? 0 : KIND;
        }
    }
}
