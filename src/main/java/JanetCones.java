/**
 * Involutive bases by the division of Janet, as DOC.md promises.
 *
 * A PRODUCT is held as the face tells it: 1024 times the EXPONENT of x, 32 times that of y, and that of z; so two
 * PRODUCTS are multiplied by adding them, once it is known that no EXPONENT comes above 31.
 * All rows are made in the constructor and used again: no call makes an object.
 */
public final class JanetCones {
    public static final int NONE = -1, BAD = -2, NOT = -3, FULL = -4;

    private static final int MODULUS = 31;
    private static final int TOP_EXPONENT = 31;
    private static final int TOP_EXPONENT_READ = 15;
    private static final int PRODUCTS = 32768;

    private static final int GENERATORS = 6;
    private static final int THE_ONE = 6;
    private static final int ORDER_NAME = 7;
    private static final int TEXTS = 8;
    private static final int MOST_BYTES = 30;
    private static final int NAME_BYTES = 3;
    private static final int BYTE_VALUES = 256;

    private static final int LEX = 0;
    private static final int DEG = 1;
    private static final int REV = 2;
    private static final int ORDERS = 3;

    private static final int MOST_TERMS = 30;
    private static final int MOST_MEMBERS = 24;
    private static final int MOST_ON_PILE = 100;
    private static final int MOST_STEPS = 120;
    private static final int MOST_SHOWN = 300;
    private static final int TOP_DEGREE = 30;

    private static final int WELL = 0;
    private static final int LONG = 1;
    private static final int WIDE = 2;
    private static final int MANY = 3;

    private static final int LETTERS = 3;
    private static final int[] LETTER_PRODUCTS = {1024, 32, 1};
    private static final int[] LETTER_SHIFTS = {10, 5, 0};

    private static final int LEAST_INT = -2147483648;

    private static final int SHEETS = 4;
    private static final int FORMS = 3;
    private static final int MOST_ITEMS = 60;
    private static final int LOST = -1;
    private static final int NULL_FOUND = 1;
    private static final int INDEX_FOUND = 2;
    private static final int CAST_FOUND = 3;
    private static final int STORE_FOUND = 4;
    private static final int SIZE_FOUND = 5;

    private static final int BY_ANSWERS = 4;
    private static final int BY_DEGREE = 6;
    private static final int COUNT_DEGREE = 10;
    private static final int[] DIGEST_PRODUCTS = {0, 37, 1024, 2113, 5218};

    // What is known of the texts as they are now; a byte typed or undone makes it unknown again.
    private static final int VALUES_KNOWN = 1;
    private static final int BASIS_KNOWN = 2;
    private static final int FORM_KNOWN = 4;
    private static final int SPARE_KNOWN = 8;
    private static final int BY_KNOWN = 16;

    private final Text[] texts = new Text[TEXTS];
    private final Polynomial[] values = new Polynomial[TEXTS - 1];
    private final Reader reader = new Reader();
    private int known;
    private int orderTold;
    private final Completion told;
    private final Completion other;
    private final Polynomial normal = new Polynomial();
    private boolean normalThere;
    private final Polynomial trial = new Polynomial();
    private int spareBits;
    private final int[] byAnswers = new int[ORDERS * BY_ANSWERS];
    private final Display display = new Display();
    private final Sheet[] sheets = new Sheet[SHEETS];
    private int latestFinding;

    public JanetCones() {
        for (int t = 0; t < TEXTS; t++) texts[t] = new Text(t == ORDER_NAME ? NAME_BYTES : MOST_BYTES);
        for (int t = 0; t < values.length; t++) values[t] = new Polynomial();
        for (int s = 0; s < SHEETS; s++) sheets[s] = new Sheet();
        Row pile = new Row(MOST_ON_PILE);
        told = new Completion(pile);
        other = new Completion(pile);
    }

    // ---- texts

    public int type(int text, int b) {
        if (!isBelow(text, TEXTS) || !isBelow(b, BYTE_VALUES)) return BAD;
        if (!texts[text].append(b)) return FULL;
        forget(text);
        return texts[text].length;
    }

    public int wipe(int text) {
        if (!isBelow(text, TEXTS)) return BAD;
        int had = texts[text].length;
        texts[text].length = 0;
        forget(text);
        return had;
    }

    public int undo(int text) {
        if (!isBelow(text, TEXTS)) return BAD;
        if (texts[text].length == 0) return NOT;
        texts[text].length--;
        forget(text);
        return texts[text].length;
    }

    public int fault(int text) {
        if (!isBelow(text, TEXTS)) return BAD;
        refresh(VALUES_KNOWN);
        return texts[text].faultPlace;
    }

    public int order() {
        refresh(VALUES_KNOWN);
        return orderTold;
    }

    public int ahead(int a, int b) {
        if (!isBelow(a, PRODUCTS) || !isBelow(b, PRODUCTS)) return BAD;
        refresh(VALUES_KNOWN);
        return rank(orderTold, a) > rank(orderTold, b) ? 1 : 0;
    }

    public int term(int text, int i, int what) {
        if (!isBelow(text, values.length) || !isBelow(i, MOST_TERMS) || !isBelow(what, 2)) return BAD;
        refresh(VALUES_KNOWN);
        return values[text].part(i, what);
    }

    // ---- the basis

    public int why(int what) {
        if (!isBelow(what, 3)) return BAD;
        refresh(BASIS_KNOWN);
        return told.outcome(what);
    }

    public int basis(int i, int j, int what) {
        if (!isBelow(i, MOST_MEMBERS) || !isBelow(j, MOST_TERMS) || !isBelow(what, 2)) return BAD;
        refresh(BASIS_KNOWN);
        return i < told.members.length ? told.members.polynomials[i].part(j, what) : NONE;
    }

    public int size(int i) {
        if (!isBelow(i, MOST_MEMBERS)) return BAD;
        refresh(BASIS_KNOWN);
        return i < told.members.length ? told.members.polynomials[i].length : 0;
    }

    public int good(int i) {
        if (!isBelow(i, MOST_MEMBERS)) return BAD;
        refresh(BASIS_KNOWN);
        return i < told.members.length ? told.members.polynomials[i].goodLetters : NONE;
    }

    public int cone(int product) {
        if (!isBelow(product, PRODUCTS)) return BAD;
        refresh(BASIS_KNOWN);
        return told.ownerOf(product);
    }

    public int outside(int degree) {
        if (!isBelow(degree, TOP_DEGREE + 1)) return BAD;
        refresh(BASIS_KNOWN);
        return told.outsideOf(degree);
    }

    public int within(int degree) {
        if (!isBelow(degree, TOP_DEGREE + 1)) return BAD;
        refresh(BASIS_KNOWN);
        return told.outsideUpTo(degree);
    }

    // ---- the one

    public int form(int i, int what) {
        if (!isBelow(i, MOST_TERMS) || !isBelow(what, 2)) return BAD;
        refresh(FORM_KNOWN);
        return normalThere ? normal.part(i, what) : NONE;
    }

    public int made() {
        refresh(FORM_KNOWN);
        if (!normalThere) return NONE;
        return normal.length == 0 ? 1 : 0;
    }

    public int spare() {
        refresh(VALUES_KNOWN);
        if ((known & SPARE_KNOWN) == 0) findSpare();
        return spareBits;
    }

    public int by(int order, int what) {
        if (!isBelow(order, ORDERS) || !isBelow(what, BY_ANSWERS)) return BAD;
        refresh(VALUES_KNOWN);
        if ((known & BY_KNOWN << order) == 0) completeBy(order);
        return byAnswers[order * BY_ANSWERS + what];
    }

    public int shown(int i, int j) {
        if (i != NONE && !isBelow(i, MOST_MEMBERS) || j != NONE && !isBelow(j, MOST_SHOWN)) return BAD;
        refresh(i == NONE ? FORM_KNOWN : BASIS_KNOWN);
        display.clear();
        if (i == NONE) {
            if (normalThere) display.showPolynomial(normal);
        } else if (i < told.members.length) {
            display.showPolynomial(told.members.polynomials[i]);
        }
        return j == NONE ? display.length : display.byteAt(j);
    }

    // ---- sheets

    public int sheet(int s, int form, int n) {
        if (!isBelow(s, SHEETS) || !isBelow(form, FORMS) || n > MOST_ITEMS) return BAD;
        if (n < 0) return finding(SIZE_FOUND);
        sheets[s].renew(form, n);
        return n;
    }

    public int lose(int s) {
        if (!isBelow(s, SHEETS)) return BAD;
        if (sheets[s].isLost()) return finding(NULL_FOUND);
        int had = sheets[s].length;
        sheets[s].renew(LOST, 0);
        return had;
    }

    public int put(int s, int form, int i, int v) {
        if (!isBelow(s, SHEETS) || !isBelow(form, FORMS)) return BAD;
        int found = itemFinding(sheets[s], form, i);
        if (found != 0) return finding(found);
        sheets[s].store(i, v);
        return 1;
    }

    public int get(int s, int form, int i) {
        if (!isBelow(s, SHEETS) || !isBelow(form, FORMS)) return LEAST_INT;
        int found = itemFinding(sheets[s], form, i);
        if (found != 0) {
            finding(found);
            return LEAST_INT;
        }
        return sheets[s].items[i];
    }

    public int copy(int s, int i, int t, int j, int n) {
        if (!isBelow(s, SHEETS) || !isBelow(t, SHEETS)) return BAD;
        Sheet from = sheets[s];
        Sheet to = sheets[t];
        if (from.isLost() || to.isLost()) return finding(NULL_FOUND);
        if (from.kind != to.kind) return finding(STORE_FOUND);
        if (!from.hasRange(i, n) || !to.hasRange(j, n)) return finding(INDEX_FOUND);
        System.arraycopy(from.items, i, to.items, j, n);
        return 1;
    }

    public int write(int s) {
        if (!isBelow(s, SHEETS)) return BAD;
        if (sheets[s].isLost()) return finding(NULL_FOUND);
        refresh(BASIS_KNOWN);
        if (told.reason != WELL) return 0;
        int n = Math.min(sheets[s].length, TOP_DEGREE + 1);
        for (int degree = 0; degree < n; degree++) sheets[s].store(degree, told.outsideOf(degree));
        return n;
    }

    public int read(int text, int s) {
        if (!isBelow(text, TEXTS) || !isBelow(s, SHEETS)) return BAD;
        Sheet from = sheets[s];
        if (from.isLost()) return finding(NULL_FOUND);
        int n = 0;
        // An item that type() would refuse may not come, and so nothing behind it.
        while (n < from.length && isBelow(from.items[n], BYTE_VALUES) && texts[text].append(from.items[n])) n++;
        forget(text);
        return n;
    }

    public int count(int what) {
        if (!isBelow(what, 9)) return BAD;
        refresh(BASIS_KNOWN);
        switch (what) {
            case 0: return bytesOfAll();
            case 1: return generatorsThere();
            case 2: return values[THE_ONE].length;
            case 3: return told.reason;
            case 4: return told.steps;
            case 5: return told.members.length;
            case 6: return orderTold;
            case 7: return told.outsideUpTo(COUNT_DEGREE);
            default: return latestFinding;
        }
    }

    public long digest() {
        long h = 17;
        for (int what = 0; what <= 7; what++) h = 31 * h + count(what);
        for (int t = 0; t < TEXTS; t++) h = 31 * h + fault(t);
        for (int t = 0; t < values.length; t++) {
            for (int i = 0; i <= 4; i++) h = 31 * (31 * h + term(t, i, 0)) + term(t, i, 1);
        }
        for (int i = 0; i < MOST_MEMBERS; i++) {
            h = 31 * (31 * h + size(i)) + good(i);
            for (int j = 0; j <= 3; j++) h = 31 * (31 * h + basis(i, j, 0)) + basis(i, j, 1);
            h = 31 * (31 * h + shown(i, NONE)) + shown(i, 2);
        }
        for (int degree = 0; degree <= 12; degree++) h = 31 * (31 * h + outside(degree)) + within(degree);
        for (int i = 0; i <= 9; i++) {
            h = 31 * (31 * h + form(i, 0)) + form(i, 1);
            h = 31 * h + shown(NONE, i);
        }
        h = 31 * (31 * h + made()) + spare();
        for (int order = 0; order < ORDERS; order++) {
            for (int what = 0; what < BY_ANSWERS; what++) h = 31 * h + by(order, what);
        }
        for (int k = 0; k < DIGEST_PRODUCTS.length; k++) h = 31 * h + cone(DIGEST_PRODUCTS[k]);
        return h;
    }

    // ---- inside

    private static boolean isBelow(int number, int bound) {
        return number >= 0 && number < bound;
    }

    /** THE ONE has no part in THE BASIS, so that one stays known when only THE ONE is changed. */
    private void forget(int text) {
        if (text == THE_ONE) known &= ~(VALUES_KNOWN | FORM_KNOWN);
        else known = 0;
    }

    /** Makes known, of the texts as they are now, their values, and THE BASIS and the NORMAL FORM where needed. */
    private void refresh(int needed) {
        if ((known & VALUES_KNOWN) == 0) {
            orderTold = texts[ORDER_NAME].findOrder();
            for (int t = 0; t < values.length; t++) reader.readText(texts[t], values[t], orderTold);
            known |= VALUES_KNOWN;
        }
        if (needed >= BASIS_KNOWN && (known & BASIS_KNOWN) == 0) {
            told.complete(values, NONE, orderTold);
            known |= BASIS_KNOWN;
        }
        if (needed >= FORM_KNOWN && (known & FORM_KNOWN) == 0) {
            normal.become(values[THE_ONE]);
            normalThere = told.reason == WELL && told.reduce(normal);
            known |= FORM_KNOWN;
        }
    }

    private void findSpare() {
        spareBits = 0;
        for (int g = 0; g < GENERATORS; g++) {
            trial.become(values[g]);
            boolean isSpare = trial.length == 0;
            if (!isSpare) {
                other.complete(values, g, orderTold);
                isSpare = other.reason == WELL && other.reduce(trial) && trial.length == 0;
            }
            if (isSpare) spareBits |= 1 << g;
        }
        known |= SPARE_KNOWN;
    }

    private void completeBy(int order) {
        other.complete(values, NONE, order);
        int from = order * BY_ANSWERS;
        for (int what = 0; what < 3; what++) byAnswers[from + what] = other.outcome(what);
        byAnswers[from + 3] = other.outsideUpTo(BY_DEGREE);
        known |= BY_KNOWN << order;
    }

    private int finding(int number) {
        latestFinding = number;
        return -10 - number;
    }

    private static int itemFinding(Sheet sheet, int form, int i) {
        if (sheet.isLost()) return NULL_FOUND;
        if (sheet.kind != form) return CAST_FOUND;
        return isBelow(i, sheet.length) ? 0 : INDEX_FOUND;
    }

    private int bytesOfAll() {
        int n = 0;
        for (int t = 0; t < TEXTS; t++) n += texts[t].length;
        return n;
    }

    private int generatorsThere() {
        int n = 0;
        for (int g = 0; g < GENERATORS; g++) if (values[g].length > 0) n++;
        return n;
    }

    private static int exponent(int product, int letter) {
        return product >> LETTER_SHIFTS[letter] & TOP_EXPONENT;
    }

    private static int degreeOf(int product) {
        return (product >> 10) + (product >> 5 & TOP_EXPONENT) + (product & TOP_EXPONENT);
    }

    /** A number that is the greater, the more a PRODUCT is AHEAD; unlike PRODUCTS have unlike ones. */
    private static int rank(int order, int product) {
        if (order == LEX) return product;
        int degree = degreeOf(product);
        if (order == REV) return degree * 1024 - (product & TOP_EXPONENT) * 32 - (product >> 5 & TOP_EXPONENT);
        return degree * PRODUCTS + product;
    }

    private static boolean divides(int a, int b) {
        for (int letter = 0; letter < LETTERS; letter++) {
            if (exponent(a, letter) > exponent(b, letter)) return false;
        }
        return true;
    }

    /** How many PRODUCTS of a DEGREE there are of so many letters. */
    private static int productsOf(int letters, int degree) {
        if (degree < 0) return 0;
        switch (letters) {
            case 0: return degree == 0 ? 1 : 0;
            case 1: return 1;
            case 2: return degree + 1;
            default: return (degree + 1) * (degree + 2) / 2;
        }
    }

    /** The bytes of a text, and its FAULT as of the last time that it was looked at as a whole. */
    private static final class Text {
        final int[] bytes;
        int length;
        int faultPlace = NONE;

        Text(int most) {
            bytes = new int[most];
        }

        boolean append(int b) {
            if (length >= bytes.length) return false;
            bytes[length] = b;
            length++;
            return true;
        }

        /** The ORDER that this text is the NAME of. */
        int findOrder() {
            faultPlace = NONE;
            if (length == 0) return DEG;
            int lex = alike("lex");
            int deg = alike("deg");
            int rev = alike("rev");
            if (lex == NAME_BYTES) return LEX;
            if (rev == NAME_BYTES) return REV;
            if (deg < NAME_BYTES) faultPlace = Math.max(lex, Math.max(deg, rev));
            return DEG;
        }

        /** How many of the first bytes are those of a name. */
        private int alike(String name) {
            int n = 0;
            while (n < length && n < name.length() && bytes[n] == name.charAt(n)) n++;
            return n;
        }
    }

    /** Reads a text as a POLYNOMIAL; holds the TERM that is being read. */
    private static final class Reader {
        private static final int AT_START = 0;
        private static final int AFTER_SIGN = 1;
        private static final int AFTER_FIGURE = 2;
        private static final int AFTER_LETTER = 3;
        private static final int AFTER_POWER = 4;

        private int state;
        private boolean negative;
        private int number;
        private int product;
        private int letter;

        /** Finds the FAULT of the text and its value by an ORDER, ZERO with a FAULT. */
        void readText(Text text, Polynomial into, int order) {
            into.length = 0;
            text.faultPlace = NONE;
            state = AT_START;
            beginTerm(false);
            for (int i = 0; i < text.length; i++) {
                if (!isNext(text.bytes[i])) {
                    text.faultPlace = i;
                    into.length = 0;
                    return;
                }
                if (state == AFTER_SIGN) {
                    if (i > 0) into.add(signedNumber(), product, order);
                    beginTerm(text.bytes[i] == '-');
                }
            }
            if (state == AFTER_SIGN) {
                text.faultPlace = text.length;
                into.length = 0;
            } else if (state != AT_START) {
                into.add(signedNumber(), product, order);
            }
        }

        private void beginTerm(boolean isNegative) {
            negative = isNegative;
            number = 1;
            product = 0;
        }

        private int signedNumber() {
            return negative ? MODULUS - number : number;
        }

        private boolean isNext(int b) {
            if (b == '+' || b == '-') return takeSign(b);
            if (b >= '1' && b <= '9') return takeFigure(b - '0');
            if (b >= 'x' && b <= 'z') return takeLetter(b - 'x');
            return false;
        }

        private boolean takeSign(int b) {
            if (state == AFTER_SIGN || state == AT_START && b == '+') return false;
            state = AFTER_SIGN;
            return true;
        }

        private boolean takeFigure(int figure) {
            if (state == AT_START || state == AFTER_SIGN) {
                number = figure;
                state = AFTER_FIGURE;
                return true;
            }
            if (state != AFTER_LETTER || figure == 1) return false;
            state = AFTER_POWER;
            return raise(figure - 1);
        }

        private boolean takeLetter(int which) {
            letter = which;
            state = AFTER_LETTER;
            return raise(1);
        }

        private boolean raise(int times) {
            if (exponent(product, letter) + times > TOP_EXPONENT_READ) return false;
            product += times * LETTER_PRODUCTS[letter];
            return true;
        }
    }

    /** A POLYNOMIAL: its TERMS as PRODUCTS are AHEAD; where it is one of THE BASIS, its letters too. */
    private static final class Polynomial {
        final int[] numbers = new int[MOST_TERMS];
        final int[] products = new int[MOST_TERMS];
        int length;
        int goodLetters;
        int sentLetters;

        /** It becomes one like another, that is new wherever it is. */
        void become(Polynomial like) {
            System.arraycopy(like.numbers, 0, numbers, 0, like.length);
            System.arraycopy(like.products, 0, products, 0, like.length);
            length = like.length;
            goodLetters = 0;
            sentLetters = 0;
        }

        int part(int i, int what) {
            if (i >= length) return NONE;
            return what == 0 ? numbers[i] : products[i];
        }

        /** A TERM is added; a text is too short for more TERMS than there is room for. */
        void add(int number, int product, int order) {
            int at = 0;
            int sought = rank(order, product);
            while (at < length && rank(order, products[at]) > sought) at++;
            if (at < length && products[at] == product) {
                numbers[at] = (numbers[at] + number) % MODULUS;
                if (numbers[at] == 0) close(at);
            } else if (length < MOST_TERMS) {
                open(at);
                numbers[at] = number;
                products[at] = product;
            }
        }

        private void open(int at) {
            System.arraycopy(numbers, at, numbers, at + 1, length - at);
            System.arraycopy(products, at, products, at + 1, length - at);
            length++;
        }

        private void close(int at) {
            length--;
            System.arraycopy(numbers, at + 1, numbers, at, length - at);
            System.arraycopy(products, at + 1, products, at, length - at);
        }

        void makeMonic() {
            if (length == 0) return;
            int inverse = 1;
            while (inverse < MODULUS - 1 && inverse * numbers[0] % MODULUS != 1) inverse++;
            for (int i = 0; i < length; i++) numbers[i] = numbers[i] * inverse % MODULUS;
        }

        /** Whether no EXPONENT comes above the highest one, if it is multiplied by a PRODUCT. */
        boolean bears(int factor) {
            for (int i = 0; i < length; i++) {
                for (int letter = 0; letter < LETTERS; letter++) {
                    if (exponent(products[i], letter) + exponent(factor, letter) > TOP_EXPONENT) return false;
                }
            }
            return true;
        }

        void multiply(int factor) {
            for (int i = 0; i < length; i++) products[i] += factor;
        }

        /** Whether a PRODUCT is in the CONE. */
        boolean owns(int product) {
            for (int letter = 0; letter < LETTERS; letter++) {
                int left = exponent(product, letter) - exponent(products[0], letter);
                if (left < 0 || left > 0 && (goodLetters >> letter & 1) == 0) return false;
            }
            return true;
        }
    }

    /** POLYNOMIALS one behind another; those beyond the length are kept to be used again. */
    private static final class Row {
        final Polynomial[] polynomials;
        int length;

        Row(int most) {
            polynomials = new Polynomial[most];
            for (int i = 0; i < most; i++) polynomials[i] = new Polynomial();
        }

        boolean append(Polynomial like) {
            if (length >= polynomials.length) return false;
            polynomials[length].become(like);
            length++;
            return true;
        }

        void remove(int at) {
            if (!isBelow(at, length)) return;
            Polynomial gone = polynomials[at];
            length--;
            for (int i = at; i < length; i++) polynomials[i] = polynomials[i + 1];
            polynomials[length] = gone;
        }

        int head(int i) {
            return polynomials[i].products[0];
        }
    }

    /** COMPLETING by one ORDER, and THE BASIS that came of it, which is empty where there is none. */
    private static final class Completion {
        final Row members = new Row(MOST_MEMBERS);
        int reason;
        int steps;
        private final Row pile;
        private int order;
        private final Polynomial taken = new Polynomial();
        private final int[] mergedNumbers = new int[2 * MOST_TERMS];
        private final int[] mergedProducts = new int[2 * MOST_TERMS];

        /** The pile may be lent to several, for it holds nothing but while one completes. */
        Completion(Row lentPile) {
            pile = lentPile;
        }

        /** Completes all GENERATORS but one (or NONE). */
        void complete(Polynomial[] values, int leftOut, int byOrder) {
            order = byOrder;
            reason = WELL;
            steps = 0;
            members.length = 0;
            fillPile(values, leftOut);
            while (reason == WELL && pile.length > 0 && steps < MOST_STEPS) {
                steps++;
                takeLowest();
                if (!reduce(taken)) {
                    reason = WIDE;
                } else if (taken.length > 0) {
                    reason = admit() ? prolong() : MANY;
                }
            }
            if (reason == WELL && pile.length > 0) reason = LONG;
            if (reason != WELL) members.length = 0;
            pile.length = 0;
        }

        /** WHY, STEPS, how many are in THE BASIS. */
        int outcome(int what) {
            if (what == 0) return reason;
            return what == 1 ? steps : members.length;
        }

        private void fillPile(Polynomial[] values, int leftOut) {
            pile.length = 0;
            for (int g = 0; g < GENERATORS && g < values.length; g++) {
                if (g == leftOut || values[g].length == 0) continue;
                // The values stand as by the ORDER that is told, which may be another one.
                taken.length = 0;
                for (int i = 0; i < values[g].length; i++) {
                    taken.add(values[g].numbers[i], values[g].products[i], order);
                }
                taken.makeMonic();
                pile.append(taken);
            }
        }

        private void takeLowest() {
            int lowest = 0;
            for (int i = 1; i < pile.length; i++) {
                if (rank(order, pile.head(i)) < rank(order, pile.head(lowest))) lowest = i;
            }
            taken.become(pile.polynomials[lowest]);
            pile.remove(lowest);
        }

        /** Makes the NORMAL FORM of a POLYNOMIAL: whether it was not WIDE on its way. */
        boolean reduce(Polynomial p) {
            int at = 0;
            // Each turn is about a PRODUCT behind the one before, so there are no more turns than PRODUCTS.
            for (int turn = 0; turn < PRODUCTS && at < p.length; turn++) {
                int owner = ownerOf(p.products[at]);
                if (owner == NONE) at++;
                else if (!takeAway(p, at, members.polynomials[owner])) return false;
            }
            return true;
        }

        int ownerOf(int product) {
            for (int i = 0; i < members.length; i++) if (members.polynomials[i].owns(product)) return i;
            return NONE;
        }

        /** Takes away the multiple of a MONIC one by which the TERM at a place goes; all ahead of it stay. */
        private boolean takeAway(Polynomial p, int at, Polynomial monic) {
            int factor = p.products[at] - monic.products[0];
            if (!monic.bears(factor)) return false;
            int number = MODULUS - p.numbers[at];
            int i = at;
            int j = 0;
            int n = at;
            while (i < p.length || j < monic.length) {
                int mine = i < p.length ? rank(order, p.products[i]) : NONE;
                int its = j < monic.length ? rank(order, monic.products[j] + factor) : NONE;
                int sum = 0;
                mergedProducts[n] = mine >= its ? p.products[i] : monic.products[j] + factor;
                if (mine >= its) {
                    sum = p.numbers[i];
                    i++;
                }
                if (its >= mine) {
                    sum = (sum + number * monic.numbers[j]) % MODULUS;
                    j++;
                }
                mergedNumbers[n] = sum;
                if (sum != 0) n++;
            }
            if (n > MOST_TERMS) return false;
            System.arraycopy(mergedNumbers, at, p.numbers, at, n - at);
            System.arraycopy(mergedProducts, at, p.products, at, n - at);
            p.length = n;
            return true;
        }

        /** What was taken comes to THE BASIS, and multiples of it go: whether there was room for them. */
        private boolean admit() {
            taken.makeMonic();
            int at = 0;
            for (int left = members.length; left > 0; left--) {
                if (!divides(taken.products[0], members.head(at))) {
                    at++;
                } else {
                    if (!pile.append(members.polynomials[at])) return false;
                    members.remove(at);
                }
            }
            if (!members.append(taken)) return false;
            for (int i = 0; i < members.length; i++) members.polynomials[i].goodLetters = findGoodLetters(i);
            return true;
        }

        private int findGoodLetters(int which) {
            int good = 7;
            int head = members.head(which);
            for (int i = 0; i < members.length; i++) {
                int letter = firstUnlike(members.head(i), head);
                if (letter < LETTERS && exponent(members.head(i), letter) > exponent(head, letter)) {
                    good &= ~(1 << letter);
                }
            }
            return good;
        }

        private static int firstUnlike(int a, int b) {
            int letter = 0;
            while (letter < LETTERS && exponent(a, letter) == exponent(b, letter)) letter++;
            return letter;
        }

        /** THE BASIS times letters that are not GOOD comes to THE PILE, but what was sent already: why not, if so. */
        private int prolong() {
            for (int i = 0; i < members.length; i++) {
                Polynomial member = members.polynomials[i];
                member.sentLetters &= ~member.goodLetters;
                for (int letter = 0; letter < LETTERS; letter++) {
                    if (((member.goodLetters | member.sentLetters) >> letter & 1) != 0) continue;
                    if (!member.bears(LETTER_PRODUCTS[letter])) return WIDE;
                    if (!pile.append(member)) return MANY;
                    pile.polynomials[pile.length - 1].multiply(LETTER_PRODUCTS[letter]);
                    member.sentLetters |= 1 << letter;
                }
            }
            return WELL;
        }

        /** How many PRODUCTS of a DEGREE are OUTSIDE: all, but those of each CONE, no two of which share any. */
        int outsideOf(int degree) {
            if (reason != WELL) return NONE;
            int n = productsOf(LETTERS, degree);
            for (int i = 0; i < members.length; i++) {
                int letters = Integer.bitCount(members.polynomials[i].goodLetters);
                n -= productsOf(letters, degree - degreeOf(members.head(i)));
            }
            return n;
        }

        int outsideUpTo(int top) {
            if (reason != WELL) return NONE;
            int n = 0;
            for (int degree = 0; degree <= top; degree++) n += outsideOf(degree);
            return n;
        }
    }

    /** A POLYNOMIAL as it is SHOWN. */
    private static final class Display {
        // A TERM has at most a +, two figures, and three letters with two figures each.
        private final int[] bytes = new int[MOST_TERMS * 12];
        int length;

        void clear() {
            length = 0;
        }

        int byteAt(int j) {
            return isBelow(j, length) ? bytes[j] : NONE;
        }

        void showPolynomial(Polynomial p) {
            if (p.length == 0) show('0');
            for (int i = 0; i < p.length; i++) {
                if (i > 0) show('+');
                int product = p.products[i];
                if (p.numbers[i] != 1 || product == 0) showNumber(p.numbers[i]);
                for (int letter = 0; letter < LETTERS; letter++) {
                    int exponent = exponent(product, letter);
                    if (exponent > 0) show('x' + letter);
                    if (exponent > 1) showNumber(exponent);
                }
            }
        }

        private void showNumber(int number) {
            if (number >= 10) show('0' + number / 10);
            show('0' + number % 10);
        }

        private void show(int b) {
            if (length >= bytes.length) return;
            bytes[length] = b;
            length++;
        }
    }

    /** A row of a FORM, or LOST; each item is held as its FORM would hold it. */
    private static final class Sheet {
        private static final int BYTES = 0;
        private static final int SHORTS = 1;

        final int[] items = new int[MOST_ITEMS];
        int kind = LOST;
        int length;

        boolean isLost() {
            return kind == LOST;
        }

        void renew(int newKind, int newLength) {
            kind = newKind;
            length = newLength;
            for (int i = 0; i < items.length; i++) items[i] = 0;
        }

        void store(int i, int v) {
            if (!isBelow(i, length)) return;
            if (kind == BYTES) items[i] = (byte) v;
            else if (kind == SHORTS) items[i] = (short) v;
            else items[i] = v;
        }

        boolean hasRange(int from, int n) {
            return from >= 0 && n >= 0 && n <= length && from <= length - n;
        }
    }
}
