import java.util.Arrays;

/** A shirt's parts, the iron, and what becomes of the creases: see README.md and the document. */
public final class CreasedAgain {
    public static final int NONE = -1, BAD = -2, STATE = -3, FULL = -4;
    public static final long NO = -4611686018427387904L;

    private static final int MISSING = -11, OUTSIDE = -12, UNLIKE = -13, BELOW = -14;
    private static final int FAULT = -100;
    private static final int PARTS = 7;
    private static final int TEXTS = 6;
    private static final int TAPE = 160;
    private static final int ENOUGH_MOST = 9999;
    private static final int SEEDS_MOST = 20;
    /** The bits of as many parts as there can be. */
    private static final int ALL = 127;

    // What is set and told: the document's numbers.
    private static final int HEAT = 0, DAMP = 1, NUMBER = 2, CREASES = 3, LIES = 4, KIND = 5;
    private static final int SHOWS = 6, KEEPS = 7, TAKES = 8, CRUMPLES = 9;
    // The rule is tried on like these, but never set or told by a number.
    private static final int RULE = 10;
    private static final int[] MOST = {9, 99, 9, 99, 127, 5};

    private final Shirt now = new Shirt();
    private final Shirt kept = new Shirt();
    private final Shirt trial = new Shirt();
    private final Texts texts = new Texts();
    private final Reader reader = new Reader();
    private final Ironing ironing = new Ironing(texts, now);
    private final Search search = new Search(ironing, trial);
    private final Sheets sheets = new Sheets();
    private boolean hasImage;

    public CreasedAgain() {
    }

    // ---- the iron, parts

    public int set(int what, int of, int v) {
        if (what < HEAT || what > LIES || isNoPart(what, of) || v < 0 || v > MOST[what]) {
            return BAD;
        }
        int was = now.item(what, of);
        now.put(what, of, v);
        return was;
    }

    public int part(int kind, int number) {
        if (kind < 0 || kind >= Kinds.MANY || number < 0 || number > MOST[NUMBER]) {
            return BAD;
        }
        return now.add(kind, number) ? now.count - 1 : FULL;
    }

    public int told(int of, int what) {
        if (what < HEAT || what > CRUMPLES || isNoPart(what, of)) {
            return BAD;
        }
        if (what <= KIND) {
            return now.item(what, of);
        }
        if (what == SHOWS) {
            return Kinds.shows(now.kind[of]);
        }
        ironing.begin(now);
        int crease = now.creases[of];
        if (what == KEEPS) {
            return ironing.keeps(of, crease);
        }
        return what == TAKES ? ironing.takes(of, crease) : ironing.crumples(of, crease);
    }

    public int iron(int part) {
        if (!now.has(part)) {
            return BAD;
        }
        ironing.choose(now, 1 << part);
        ironing.run(now);
        System.arraycopy(ironing.last(), 0, now.creases, 0, now.count);
        return now.creases[part];
    }

    // ---- texts

    public int feed(int letter) {
        if (letter < 0 || letter > 255) {
            return BAD;
        }
        return reader.takeIn(letter) ? reader.size : FULL;
    }

    public int text() {
        if (texts.count >= TEXTS) {
            return FULL;
        }
        int fault = reader.read(texts.code[texts.count], texts.start[texts.count]);
        reader.size = 0;
        if (fault != NONE) {
            return FAULT - fault;
        }
        texts.count++;
        return texts.count - 1;
    }

    public int force(int text) {
        if (text < 0 || text >= texts.count) {
            return BAD;
        }
        int was = now.rule;
        now.rule = text;
        return was;
    }

    // ---- orders

    public int plain(int what) {
        if (!isOfOrder(what)) {
            return BAD;
        }
        ironing.choose(now, ALL);
        ironing.run(now);
        return ironing.answer(now, what);
    }

    public int order(int sheet, int what) {
        if (!sheets.has(sheet) || !isOfOrder(what)) {
            return BAD;
        }
        if (sheets.isMissing(sheet)) {
            return MISSING;
        }
        if (!takesOrder(sheet)) {
            return BAD;
        }
        ironing.run(now);
        return ironing.answer(now, what);
    }

    public int best(int what) {
        if (what < 0 || what > 1) {
            return BAD;
        }
        search.bestOrder(now);
        return what == 0 ? search.least : search.which;
    }

    public int worst(int what) {
        if (what < 0 || what > 1) {
            return BAD;
        }
        ironing.chooseWorstFirst(now);
        ironing.run(now);
        return what == 0 ? ironing.creased(now) : ironing.digits();
    }

    // ---- what would be better

    public int change(int what) {
        if (what < 0 || what > 1) {
            return BAD;
        }
        search.swap(now);
        return what == 0 ? search.which : search.least;
    }

    public int leave(int what) {
        if (what < 0 || what > 1) {
            return BAD;
        }
        search.without(now);
        return what == 0 ? search.which : search.least;
    }

    public int spray(int what) {
        if (what < 0 || what > 1) {
            return BAD;
        }
        search.sprayed(now);
        return what == 0 ? search.which : search.least;
    }

    public int how(int what) {
        if (what < 0 || what > 3) {
            return BAD;
        }
        search.setting(now, what < 2 ? DAMP : HEAT);
        return what % 2 == 0 ? search.which : search.least;
    }

    public int enough(int k) {
        if (k < 0 || k > ENOUGH_MOST) {
            return BAD;
        }
        return search.fewest(now, k);
    }

    // ---- orders that were told

    public int tells(int sheet, int what) {
        if (!sheets.has(sheet) || what < 0 || what > 49 || what > 2 && what < 10
                || what > 2 && !now.has(what % 10)) {
            return BAD;
        }
        if (sheets.isMissing(sheet)) {
            return MISSING;
        }
        if (sheets.size[sheet] != now.count) {
            return BAD;
        }
        if (what == 0) {
            return otherwise(now, sheet);
        }
        return readBack(sheet, what);
    }

    public int film(int sheet) {
        if (!sheets.has(sheet)) {
            return BAD;
        }
        ironing.choose(now, ALL);
        ironing.run(now);
        sheets.become(sheet, Sheets.BYTES, now.count);
        System.arraycopy(ironing.last(), 0, sheets.items[sheet], 0, now.count);
        return now.count;
    }

    public int drawn(int seed) {
        trial.become(now);
        trial.draw(seed);
        ironing.choose(trial, ALL);
        ironing.run(trial);
        return ironing.creased(trial);
    }

    public long chance(int seed, int n, int part) {
        if (n < 1 || n > SEEDS_MOST || part < 0 || part > 1) {
            return NO;
        }
        int good = 0;
        for (int i = 0; i < n; i++) {
            int plain = drawn(seed + i);
            ironing.chooseWorstFirst(trial);
            ironing.run(trial);
            if (ironing.creased(trial) <= plain) {
                good++;
            }
        }
        int shared = common(good, n);
        if (shared < 1) {
            return NO;
        }
        return part == 0 ? good / shared : n / shared;
    }

    public int image() {
        kept.become(now);
        hasImage = true;
        return kept.count;
    }

    public int back() {
        if (!hasImage) {
            return STATE;
        }
        now.become(kept);
        return now.count;
    }

    public int count(int what) {
        switch (what) {
            case 0: return now.count;
            case 1: return texts.count;
            case 2: return reader.size;
            case 3: return now.rule;
            case 4: return now.creasedBy(now.creases);
            default: return BAD;
        }
    }

    // ---- the host

    public int sheet(int sheet, int sort, int n) {
        if (!sheets.has(sheet) || sort < Sheets.NO_SORT || sort > Sheets.INTS) {
            return BAD;
        }
        if (sort == Sheets.NO_SORT) {
            sheets.sort[sheet] = Sheets.NO_SORT;
            return 1;
        }
        if (n > Sheets.MOST_ITEMS) {
            return BAD;
        }
        if (n < 0) {
            return BELOW;
        }
        sheets.become(sheet, sort, n);
        return 1;
    }

    public int cell(int sheet, int i, int v) {
        if (!sheets.has(sheet)) {
            return BAD;
        }
        if (sheets.isMissing(sheet)) {
            return MISSING;
        }
        if (!sheets.hasItem(sheet, i)) {
            return OUTSIDE;
        }
        sheets.put(sheet, i, v);
        return 1;
    }

    public int copy(int sheet, int i, int other, int j, int n) {
        if (!sheets.has(sheet) || !sheets.has(other)) {
            return BAD;
        }
        if (sheets.isMissing(sheet) || sheets.isMissing(other)) {
            return MISSING;
        }
        if (sheets.sort[sheet] != sheets.sort[other]) {
            return UNLIKE;
        }
        if (!sheets.hasItems(sheet, i, n) || !sheets.hasItems(other, j, n)) {
            return OUTSIDE;
        }
        System.arraycopy(sheets.items[sheet], i, sheets.items[other], j, n);
        return n;
    }

    public int parts(int sheet, int sort, int from, int n) {
        if (!sheets.has(sheet) || sort < Sheets.BYTES || sort > Sheets.INTS || n < 0 || n > PARTS) {
            return BAD;
        }
        // What is missing is of no sort that could be another, so that -13 is not ahead of -11 here.
        if (sheets.isMissing(sheet)) {
            return MISSING;
        }
        if (sheets.sort[sheet] != sort) {
            return UNLIKE;
        }
        int came = 0;
        for (int i = 0; i < n; i++) {
            // This never wraps: the first place outside ends it.
            int at = from + 2 * i;
            if (!sheets.hasItem(sheet, at) || !sheets.hasItem(sheet, at + 1)) {
                return OUTSIDE;
            }
            if (part(sheets.items[sheet][at], sheets.items[sheet][at + 1]) >= 0) {
                came++;
            }
        }
        return came;
    }

    public int taken(int part, int k) {
        if (k < 0 || k >= Kinds.MANY) {
            return BAD;
        }
        if (!now.has(part)) {
            return MISSING;
        }
        return Kinds.isUnder(now.kind[part], k) ? now.number[part] : UNLIKE;
    }

    // Of HEAT and DAMP it does not matter which part is named.
    private boolean isNoPart(int what, int of) {
        return what > DAMP && !now.has(of);
    }

    private boolean isOfOrder(int what) {
        return what == 0 || what == 1 || what >= 10 && what <= 29 && now.has(what % 10);
    }

    private boolean takesOrder(int sheet) {
        int seen = 0;
        ironing.clear();
        for (int i = 0; i < sheets.size[sheet]; i++) {
            int part = sheets.items[sheet][i];
            if (!now.has(part) || (seen >> part & 1) != 0) {
                return false;
            }
            seen |= 1 << part;
            ironing.append(part);
        }
        return true;
    }

    private int otherwise(Shirt shirt, int sheet) {
        ironing.choose(shirt, ALL);
        ironing.run(shirt);
        int[] last = ironing.last();
        int bits = 0;
        for (int part = 0; part < shirt.count; part++) {
            if (last[part] != sheets.items[sheet][part]) {
                bits |= 1 << part;
            }
        }
        return bits;
    }

    private int readBack(int sheet, int what) {
        int item = itemReadBack(what);
        int most = item == RULE ? texts.count - 1 : MOST[item];
        int bits = 0;
        int many = 0;
        int least = NONE;
        trial.become(now);
        for (int v = 0; v <= most; v++) {
            trial.put(item, what % 10, v);
            if (otherwise(trial, sheet) == 0) {
                bits |= 1 << v;
                many++;
                least = least == NONE ? v : least;
            }
        }
        if (item != CREASES) {
            return bits;
        }
        return what < 40 ? many : least;
    }

    private static int itemReadBack(int what) {
        switch (what / 10) {
            case 0: return what == 1 ? HEAT : RULE;
            case 1: return KIND;
            case 2: return NUMBER;
            default: return CREASES;
        }
    }

    private static int common(int a, int b) {
        int more = a;
        int less = b;
        for (int i = 0; i < 100 && less != 0; i++) {
            int rest = more % less;
            more = less;
            less = rest;
        }
        return more;
    }

    /** What the kinds make of the values that a text tells. */
    static final class Kinds {
        static final int PART = 0, COLLAR = 1, SLEEVE = 2, YOKE = 3, CUFF = 4, POCKET = 5;
        static final int MANY = 6;
        private static final int[] OVER = {NONE, PART, PART, COLLAR, SLEEVE, PART};

        static int keeps(int kind, int v, int creases, int number) {
            int most = 99;
            switch (kind) {
                case COLLAR:
                case YOKE: return v / 2;
                case SLEEVE: return Math.min(most, v + number);
                case CUFF: return Math.min(most, Math.min(v, creases / 2) + number);
                case POCKET: return creases / 3;
                default: return v;
            }
        }

        static int takes(int kind, int v, int number) {
            int least = 1;
            switch (kind) {
                case COLLAR: return Math.max(least, 2 * v);
                case YOKE: return Math.max(least, 2 * v + number);
                case CUFF: return Math.max(least, v / 2);
                case POCKET: return least;
                default: return Math.max(least, v);
            }
        }

        static int crumples(int kind, int v) {
            switch (kind) {
                case COLLAR:
                case YOKE: return Math.max(0, v - 2);
                case SLEEVE:
                case CUFF: return 2 * v;
                case POCKET: return 0;
                default: return v;
            }
        }

        static int shows(int kind) {
            switch (kind) {
                case COLLAR: return 3;
                case YOKE:
                case CUFF: return 2;
                default: return 1;
            }
        }

        static boolean isUnder(int kind, int other) {
            int over = kind;
            for (int i = 0; i < MANY && over >= 0 && over < MANY && over != other; i++) {
                over = OVER[over];
            }
            return over == other;
        }
    }

    /** The iron and the parts: as they are, as an image keeps them, or as they would be. */
    static final class Shirt {
        int heat = 5;
        int damp = 40;
        int rule;
        int count;
        final int[] kind = new int[PARTS];
        final int[] number = new int[PARTS];
        final int[] creases = new int[PARTS];
        final int[] lies = new int[PARTS];

        boolean has(int part) {
            return part >= 0 && part < count;
        }

        boolean add(int newKind, int newNumber) {
            if (count >= PARTS) {
                return false;
            }
            kind[count] = newKind;
            number[count] = newNumber;
            creases[count] = 50;
            lies[count] = 0;
            count++;
            return true;
        }

        int item(int what, int of) {
            switch (what) {
                case HEAT: return heat;
                case DAMP: return damp;
                case RULE: return rule;
                default: return has(of) ? itemOf(what, of) : NONE;
            }
        }

        private int itemOf(int what, int of) {
            switch (what) {
                case NUMBER: return number[of];
                case CREASES: return creases[of];
                case LIES: return lies[of];
                default: return kind[of];
            }
        }

        void put(int what, int of, int v) {
            switch (what) {
                case HEAT: heat = v; break;
                case DAMP: damp = v; break;
                case RULE: rule = v; break;
                default:
                    if (has(of)) {
                        putOf(what, of, v);
                    }
            }
        }

        private void putOf(int what, int of, int v) {
            switch (what) {
                case NUMBER: number[of] = v; break;
                case CREASES: creases[of] = v; break;
                case LIES: lies[of] = v; break;
                default: kind[of] = v;
            }
        }

        void become(Shirt other) {
            heat = other.heat;
            damp = other.damp;
            rule = other.rule;
            count = other.count;
            System.arraycopy(other.kind, 0, kind, 0, PARTS);
            System.arraycopy(other.number, 0, number, 0, PARTS);
            System.arraycopy(other.creases, 0, creases, 0, PARTS);
            System.arraycopy(other.lies, 0, lies, 0, PARTS);
        }

        void draw(int seed) {
            int z = seed;
            for (int part = 0; part < count; part++) {
                z = z * 1103515245 + 12345;
                creases[part] = (z >>> 9) % 100;
            }
        }

        int creasedBy(int[] row) {
            int all = 0;
            for (int part = 0; part < count; part++) {
                all += row[part] * Kinds.shows(kind[part]);
            }
            return all;
        }
    }

    /** The texts, each as steps of a stack machine, and the values that their names have now. */
    static final class Texts {
        static final int IRONS = 0, TAKES = 1, CRUMPLES = 2;
        static final int EXPRESSIONS = 3;
        static final int MINUTE = 0, DAMPNESS = 1, WARMTH = 2, NUMERAL = 3, CREASE = 4, ITSELF = 5;
        static final int NAMES = 6;
        // A step below NAME is the number that it puts on the stack.
        static final int NAME = 10000, NEGATE = 10010, NOT = 10011, ADD = 10012, SUBTRACT = 10013,
                MULTIPLY = 10014, LESS = 10015, EQUAL = 10016, AND = 10017, OR = 10018, END = 10019;
        // irons 9 - heat ; takes 2 ; crumples 4 ;
        private static final int[] FIRST = {9, NAME + WARMTH, SUBTRACT, END, 2, END, 4, END};
        private static final int[] FIRST_START = {0, 4, 6};
        private static final int[] MOST_TOLD = {99, 30, 99};

        final int[][] code = new int[TEXTS][TAPE];
        final int[][] start = new int[TEXTS][EXPRESSIONS];
        final int[] names = new int[NAMES];
        private final int[] stack = new int[TAPE];
        int count = 1;

        Texts() {
            System.arraycopy(FIRST, 0, code[0], 0, FIRST.length);
            System.arraycopy(FIRST_START, 0, start[0], 0, EXPRESSIONS);
        }

        /** What an expression of a text tells by the names, within its bounds. */
        int bounded(int text, int expression) {
            int[] row = code[text];
            int top = 0;
            for (int i = start[text][expression]; i < row.length && row[i] != END && top < TAPE; i++) {
                int step = row[i];
                if (step < NAME) {
                    stack[top++] = step;
                } else if (step < NAME + NAMES) {
                    stack[top++] = names[step - NAME];
                } else if (step <= NOT && top > 0) {
                    int one = stack[top - 1];
                    stack[top - 1] = step == NEGATE ? -one : one == 0 ? 1 : 0;
                } else if (top > 1) {
                    top--;
                    stack[top - 1] = joined(step, stack[top - 1], stack[top]);
                }
            }
            return Math.max(0, Math.min(MOST_TOLD[expression], stack[0]));
        }

        private static int joined(int step, int a, int b) {
            switch (step) {
                case ADD: return a + b;
                case SUBTRACT: return a - b;
                case MULTIPLY: return a * b;
                case LESS: return a < b ? 1 : 0;
                case EQUAL: return a == b ? 1 : 0;
                case AND: return a != 0 && b != 0 ? 1 : 0;
                default: return a != 0 || b != 0 ? 1 : 0;
            }
        }
    }

    /** The tape, and how it is read: token by token into the steps of a text. */
    static final class Reader {
        private static final int OPEN_MOST = 5;
        private static final int DIGITS_MOST = 4;
        // Tokens; a sign is its own byte, and the keys of expressions follow one another.
        private static final int ENDS = 0, FAULTY = 1, NUMERAL = 2, NAME = 3;
        private static final int IRONS = 256, TAKES = 257, CRUMPLES = 258, OR = 259, AND = 260, NOT = 261;

        private final int[] tape = new int[TAPE];
        int size;
        private int[] code;
        private int length;
        private int at;
        private int place;
        private int token;
        private int value;

        boolean takeIn(int letter) {
            if (size >= TAPE) {
                return false;
            }
            tape[size++] = letter;
            return true;
        }

        /** NONE, or the place of the fault. */
        int read(int[] row, int[] starts) {
            code = row;
            length = 0;
            at = 0;
            advance();
            for (int i = 0; i < Texts.EXPRESSIONS; i++) {
                if (token != IRONS + i) {
                    return place;
                }
                advance();
                starts[i] = length;
                if (!either(0) || token != ';') {
                    return place;
                }
                emit(Texts.END);
                advance();
            }
            return token == ENDS ? NONE : place;
        }

        // Each reads what it is named for; if it can't, the token at place is the one that can't stand there.
        private boolean either(int open) {
            boolean fine = both(open);
            for (int i = 0; i < TAPE && fine && token == OR; i++) {
                advance();
                fine = both(open);
                emit(Texts.OR);
            }
            return fine;
        }

        private boolean both(int open) {
            boolean fine = negation(open);
            for (int i = 0; i < TAPE && fine && token == AND; i++) {
                advance();
                fine = negation(open);
                emit(Texts.AND);
            }
            return fine;
        }

        private boolean negation(int open) {
            if (token != NOT) {
                return comparison(open);
            }
            if (open >= OPEN_MOST) {
                return false;
            }
            advance();
            boolean fine = negation(open + 1);
            emit(Texts.NOT);
            return fine;
        }

        private boolean comparison(int open) {
            boolean fine = sum(open);
            if (!fine || token != '<' && token != '=') {
                return fine;
            }
            int step = token == '<' ? Texts.LESS : Texts.EQUAL;
            advance();
            fine = sum(open);
            emit(step);
            return fine;
        }

        private boolean sum(int open) {
            boolean fine = term(open);
            for (int i = 0; i < TAPE && fine && (token == '+' || token == '-'); i++) {
                int step = token == '+' ? Texts.ADD : Texts.SUBTRACT;
                advance();
                fine = term(open);
                emit(step);
            }
            return fine;
        }

        private boolean term(int open) {
            boolean fine = one(open);
            for (int i = 0; i < TAPE && fine && token == '*'; i++) {
                advance();
                fine = one(open);
                emit(Texts.MULTIPLY);
            }
            return fine;
        }

        private boolean one(int open) {
            if (token == NUMERAL || token == NAME) {
                emit(value);
                advance();
                return true;
            }
            if (token != '-' && token != '(' || open >= OPEN_MOST) {
                return false;
            }
            if (token == '-') {
                advance();
                boolean fine = one(open + 1);
                emit(Texts.NEGATE);
                return fine;
            }
            advance();
            if (!either(open + 1) || token != ')') {
                return false;
            }
            advance();
            return true;
        }

        private void emit(int step) {
            if (code != null && length < code.length) {
                code[length++] = step;
            }
        }

        private void advance() {
            while (at < size && (tape[at] == ' ' || tape[at] == '\n')) {
                at++;
            }
            place = at;
            if (at >= size) {
                token = ENDS;
            } else if (isLetter(tape[at])) {
                advanceOverWord();
            } else if (isDigit(tape[at])) {
                advanceOverNumber();
            } else {
                token = isSign(tape[at]) ? tape[at] : FAULTY;
                at++;
            }
        }

        private void advanceOverNumber() {
            value = 0;
            for (; at < size && isDigit(tape[at]); at++) {
                value = value * 10 + tape[at] - '0';
            }
            token = at - place > DIGITS_MOST ? FAULTY : NUMERAL;
        }

        private void advanceOverWord() {
            while (at < size && isLetter(tape[at])) {
                at++;
            }
            int name = name();
            value = Texts.NAME + name;
            token = name == NONE ? key() : NAME;
        }

        private int name() {
            if (isWord("minute")) {
                return Texts.MINUTE;
            }
            if (isWord("damp")) {
                return Texts.DAMPNESS;
            }
            if (isWord("heat")) {
                return Texts.WARMTH;
            }
            if (isWord("number")) {
                return Texts.NUMERAL;
            }
            if (isWord("crease")) {
                return Texts.CREASE;
            }
            return isWord("part") ? Texts.ITSELF : NONE;
        }

        private int key() {
            if (isWord("irons")) {
                return IRONS;
            }
            if (isWord("takes")) {
                return TAKES;
            }
            if (isWord("crumples")) {
                return CRUMPLES;
            }
            if (isWord("or")) {
                return OR;
            }
            if (isWord("and")) {
                return AND;
            }
            return isWord("not") ? NOT : FAULTY;
        }

        private boolean isWord(String word) {
            boolean is = at - place == word.length();
            for (int i = 0; is && i < word.length(); i++) {
                is = tape[place + i] == word.charAt(i);
            }
            return is;
        }

        private static boolean isLetter(int letter) {
            return letter >= 'a' && letter <= 'z';
        }

        private static boolean isDigit(int letter) {
            return letter >= '0' && letter <= '9';
        }

        private static boolean isSign(int letter) {
            switch (letter) {
                case '(':
                case ')':
                case ';':
                case '+':
                case '-':
                case '*':
                case '<':
                case '=': return true;
                default: return false;
            }
        }
    }

    /** Ironing by an order. What stands ahead of each place is kept, so that only what changes is ironed anew. */
    static final class Ironing {
        private final Texts texts;
        final int[] order = new int[PARTS];
        int many;
        /** The place ahead of which it is sprayed, or NONE. */
        int spray = NONE;
        private final int[][] ahead = new int[PARTS + 1][PARTS];
        private final int[] minutes = new int[PARTS + 1];
        private final int[] weight = new int[PARTS];
        private Shirt shirt;
        private int minute;
        private int sprayedAt;

        Ironing(Texts texts, Shirt first) {
            this.texts = texts;
            shirt = first;
        }

        void clear() {
            many = 0;
        }

        void append(int part) {
            if (many < PARTS) {
                order[many++] = part;
            }
        }

        /** The order by numbers of those whose bits are told. */
        void choose(Shirt of, int bits) {
            clear();
            for (int part = 0; part < of.count; part++) {
                if ((bits >> part & 1) != 0) {
                    append(part);
                }
            }
        }

        void chooseWorstFirst(Shirt of) {
            clear();
            for (int part = 0; part < of.count; part++) {
                weight[part] = of.creases[part] * Kinds.shows(of.kind[part]);
                int place = many;
                append(part);
                for (; place > 0 && weight[order[place - 1]] < weight[part]; place--) {
                    order[place] = order[place - 1];
                }
                order[place] = part;
            }
        }

        /** Irons a shirt by the order that has been chosen. */
        void run(Shirt of) {
            begin(of);
            System.arraycopy(of.creases, 0, ahead[0], 0, PARTS);
            for (int place = 0; place < many; place++) {
                ironOne(place);
            }
        }

        /** The same shirt again, by an order that is as it was ahead of that place. */
        void runFrom(int from) {
            for (int place = Math.max(0, from); place < many; place++) {
                ironOne(place);
            }
        }

        /** Minute 0 of a shirt. */
        void begin(Shirt of) {
            shirt = of;
            minute = 0;
            sprayedAt = 0;
            texts.names[Texts.WARMTH] = of.heat;
        }

        private void ironOne(int place) {
            int part = order[place];
            int[] row = ahead[place + 1];
            System.arraycopy(ahead[place], 0, row, 0, PARTS);
            minute = minutes[place];
            sprayedAt = spray >= 0 && spray <= place ? minutes[spray] : 0;
            int takes = takes(part, row[part]);
            row[part] = keeps(part, row[part]);
            minute += takes;
            minutes[place + 1] = minute;
            int under = shirt.lies[part] & ~(1 << part);
            for (int other = 0; other < shirt.count; other++) {
                if ((under >> other & 1) != 0) {
                    row[other] = Math.min(99, row[other] + crumples(other, row[other]));
                }
            }
        }

        int keeps(int part, int crease) {
            nameAll(part, crease);
            int v = texts.bounded(shirt.rule, Texts.IRONS);
            return Kinds.keeps(shirt.kind[part], v, crease, shirt.number[part]);
        }

        int takes(int part, int crease) {
            nameAll(part, crease);
            int v = texts.bounded(shirt.rule, Texts.TAKES);
            return Kinds.takes(shirt.kind[part], v, shirt.number[part]);
        }

        int crumples(int part, int crease) {
            nameAll(part, crease);
            int v = texts.bounded(shirt.rule, Texts.CRUMPLES);
            return Kinds.crumples(shirt.kind[part], v);
        }

        private void nameAll(int part, int crease) {
            int[] names = texts.names;
            names[Texts.MINUTE] = minute;
            names[Texts.DAMPNESS] = Math.max(0, shirt.damp - (minute - sprayedAt));
            names[Texts.NUMERAL] = shirt.number[part];
            names[Texts.CREASE] = crease;
            names[Texts.ITSELF] = part;
        }

        /** Creases of all at last. */
        int[] last() {
            return ahead[many];
        }

        int creased(Shirt of) {
            return of.creasedBy(ahead[many]);
        }

        int digits() {
            int all = 0;
            for (int place = 0; place < many; place++) {
                all = all * 10 + order[place] + 1;
            }
            return all;
        }

        int answer(Shirt of, int what) {
            if (what < 10) {
                return what == 0 ? creased(of) : minutes[many];
            }
            return what < 20 ? ahead[many][what % 10] : doneAt(what % 10);
        }

        private int doneAt(int part) {
            for (int place = 0; place < many; place++) {
                if (order[place] == part) {
                    return minutes[place + 1];
                }
            }
            return NONE;
        }

        void exchange(int i, int j) {
            int part = order[i];
            order[i] = order[j];
            order[j] = part;
        }

        /** The next order of the same parts, as digits; the first place that changed, or NONE. */
        int next() {
            int i = many - 2;
            while (i >= 0 && order[i] > order[i + 1]) {
                i--;
            }
            if (i < 0) {
                return NONE;
            }
            int j = many - 1;
            while (j > i + 1 && order[j] < order[i]) {
                j--;
            }
            exchange(i, j);
            for (int from = i + 1, till = many - 1; from < till; from++, till--) {
                exchange(from, till);
            }
            return i;
        }
    }

    /** What would be better: of what is offered in turn, the first by which least is creased. */
    static final class Search {
        private static final int UNTRIED = 2147483647;
        private static final int ORDERS = 5040;

        private final Ironing ironing;
        private final Shirt trial;
        int least;
        int which;

        Search(Ironing ironing, Shirt trial) {
            this.ironing = ironing;
            this.trial = trial;
        }

        private void begin(int creased) {
            which = NONE;
            least = creased;
        }

        private void offer(int what, int creased) {
            if (creased < least) {
                which = what;
                least = creased;
            }
        }

        void bestOrder(Shirt of) {
            ironing.choose(of, ALL);
            ironing.run(of);
            which = ironing.digits();
            least = ironing.creased(of);
            int from = ironing.next();
            for (int i = 0; i < ORDERS && from != NONE; i++) {
                ironing.runFrom(from);
                int creased = ironing.creased(of);
                if (creased < least) {
                    which = ironing.digits();
                    least = creased;
                }
                from = ironing.next();
            }
        }

        void swap(Shirt of) {
            ironing.choose(of, ALL);
            ironing.run(of);
            begin(ironing.creased(of));
            for (int i = 0; i < of.count; i++) {
                for (int j = i + 1; j < of.count; j++) {
                    ironing.exchange(i, j);
                    ironing.run(of);
                    offer(10 * i + j, ironing.creased(of));
                    ironing.exchange(i, j);
                }
            }
        }

        void without(Shirt of) {
            ironing.choose(of, ALL);
            ironing.run(of);
            begin(ironing.creased(of));
            for (int part = 0; part < of.count; part++) {
                ironing.choose(of, ALL & ~(1 << part));
                ironing.run(of);
                offer(part, ironing.creased(of));
            }
        }

        void sprayed(Shirt of) {
            ironing.choose(of, ALL);
            ironing.run(of);
            begin(ironing.creased(of));
            for (int place = 0; place < of.count; place++) {
                ironing.spray = place;
                ironing.run(of);
                offer(place, ironing.creased(of));
            }
            ironing.spray = NONE;
        }

        void setting(Shirt of, int what) {
            begin(UNTRIED);
            trial.become(of);
            for (int v = 0; v <= MOST[what]; v++) {
                trial.put(what, 0, v);
                ironing.choose(trial, ALL);
                ironing.run(trial);
                offer(v, ironing.creased(trial));
            }
        }

        int fewest(Shirt of, int most) {
            int found = NONE;
            int many = PARTS + 1;
            for (int bits = 0; bits < 1 << of.count; bits++) {
                int chosen = Integer.bitCount(bits);
                if (chosen < many) {
                    ironing.choose(of, bits);
                    ironing.run(of);
                    if (ironing.creased(of) <= most) {
                        found = bits;
                        many = chosen;
                    }
                }
            }
            return found;
        }
    }

    /** The host's rows of numbers. */
    static final class Sheets {
        static final int MANY = 4;
        static final int MOST_ITEMS = 40;
        static final int NO_SORT = -1, BYTES = 0, SHORTS = 1, INTS = 2;

        final int[] sort = {NO_SORT, NO_SORT, NO_SORT, NO_SORT};
        final int[] size = new int[MANY];
        final int[][] items = new int[MANY][MOST_ITEMS];

        boolean has(int sheet) {
            return sheet >= 0 && sheet < MANY;
        }

        boolean isMissing(int sheet) {
            return sort[sheet] == NO_SORT;
        }

        boolean hasItem(int sheet, int i) {
            return i >= 0 && i < size[sheet];
        }

        boolean hasItems(int sheet, int from, int n) {
            return from >= 0 && n >= 0 && n <= size[sheet] && from <= size[sheet] - n;
        }

        void become(int sheet, int newSort, int n) {
            sort[sheet] = newSort;
            size[sheet] = n;
            Arrays.fill(items[sheet], 0);
        }

        void put(int sheet, int i, int v) {
            int bits = sort[sheet] == BYTES ? (byte) v : v;
            items[sheet][i] = sort[sheet] == SHORTS ? (short) v : bits;
        }
    }
}
