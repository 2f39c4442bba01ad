import java.util.Arrays;
import java.util.function.BiPredicate;

/** Each sentence that names an edge, of NUMBERS, texts and ORDERS in "Terms" and of promises 1 to 8, by itself. */
public final class TextEdgesTest {
    private static final int LEAST = Integer.MIN_VALUE;
    private static final int MOST = Integer.MAX_VALUE;
    private static final String[] ORDERS = {"lex", "deg", "rev"};

    public static void main(String[] args) {
        exponentsOfAProduct();
        lastCall();
        numbersAdded();
        numbersTakenAway();
        numbersMultiplied();
        inverses();
        noProductTwice();
        zero();
        generatorsAndTheOne();
        mostBytes();
        signs();
        figures();
        powers();
        noFigure();
        addedUp();
        firstByteThatCannot();
        emptyIsWell();
        notEnded();
        exponentAboveFifteen();
        nameOfTheOrder();
        withAFault();
        orderWithAFault();
        byLex();
        byDeg();
        byRev();
        head();
        newObject();
        type();
        typeBad();
        typeFull();
        wipe();
        undo();
        undoNot();
        faultBad();
        order();
        productsTold();
        aheadBad();
        termsTold();
        termNone();
        termBad();
        Check.end();
    }

    // ---- what it is, and terms

    private static void exponentsOfAProduct() {
        Check.sentence("A PRODUCT has three EXPONENTS, of x, y, z (0 to 31).");
        for (int place = 0; place < 3; place++) {
            int letter = new int[] {1024, 32, 1}[place];
            JanetCones x = Check.with("lex", "", "xyz".substring(place, place + 1));
            Check.due("EXPONENT 0", x.cone(32767 - 31 * letter), -1);
            Check.due("EXPONENT 1", x.cone(letter), 0);
            Check.due("EXPONENT 31", x.cone(31 * letter), 0);
            Check.due("31 is ahead of 30", x.ahead(31 * letter, 30 * letter), 1);
        }
    }

    private static void lastCall() {
        Check.sentence("An object is used for at most 512 calls after it has been made");
        JanetCones x = Check.with("lex", "", "x2-y");
        for (int calls = 10; calls < 510; calls++) x.wipe(5);
        Check.due("call 511", x.type(5, 'y'), 1);
        Check.due("call 512", x.why(2), 3);
    }

    private static void numbersAdded() {
        Check.sentence("NUMBERS are 0 to 30; they are added .. modulo 31");
        for (int n = 1; n <= 90; n++) {
            JanetCones x = Check.with("", Check.times(n, '+'));
            Check.due(Check.times(n, '+'), x.term(6, 0, 0), n % 31 == 0 ? -1 : n % 31);
            Check.due(Check.times(n, '+'), x.count(2), n % 31 == 0 ? 0 : 1);
        }
    }

    private static void numbersTakenAway() {
        Check.sentence("NUMBERS are .. taken away .. modulo 31");
        for (int n = 1; n <= 90; n++) {
            JanetCones x = Check.with("", Check.times(n, '-'));
            Check.due(Check.times(n, '-'), x.term(6, 0, 0), n % 31 == 0 ? -1 : 31 - n % 31);
        }
        for (int a = 1; a <= 9; a++) {
            for (int b = 1; b <= 9; b++) {
                JanetCones x = Check.with("", a + "z-" + b + "z");
                Check.due(a + "z-" + b + "z", x.term(6, 0, 0), a == b ? -1 : (a - b + 31) % 31);
            }
        }
    }

    private static void numbersMultiplied() {
        Check.sentence("NUMBERS are .. multiplied modulo 31");
        for (int a = 1; a <= 30; a++) {
            for (int b = 1; b <= 9; b++) {
                JanetCones x = Check.with("lex", Check.times(a, '+'), "x-" + b + "y");
                Check.due(a + " times " + b, x.form(0, 0), a * b % 31);
                x = Check.with("lex", Check.times(a, '+'), "x+" + b + "y");
                Check.due(a + " times -" + b, x.form(0, 0), 31 - a * b % 31);
            }
        }
    }

    private static void inverses() {
        Check.sentence("(every one but 0 has its inverse)");
        for (int n = 1; n <= 30; n++) {
            JanetCones x = Check.with("lex", "", Check.times(n, '+') + "+y");
            Check.due("MONIC", x.basis(0, 0, 0), 1);
            Check.due("inverse of " + n, x.basis(0, 1, 0) * n % 31, 1);
        }
    }

    private static void noProductTwice() {
        Check.sentence("A POLYNOMIAL is a sum of TERMS, each a NUMBER but 0 and a PRODUCT, no PRODUCT twice");
        JanetCones x = Check.with("", "x2y+xyx+yx2+xxy+z-z+y");
        Check.due("TERMS", x.count(2), 2);
        Check.due("x2y", x.term(6, 0, 0), 4);
        Check.due("x2y", x.term(6, 0, 1), 2080);
        Check.due("y", x.term(6, 1, 0), 1);
        Check.due("y", x.term(6, 1, 1), 32);
        Check.due("no z", x.term(6, 2, 0), -1);
    }

    private static void zero() {
        Check.sentence("it is ZERO, if there are none");
        for (String none : new String[] {"", "x-x", "-y+y", "9z+9z+9z+4z", "1-1", "x+y-x-y"}) {
            JanetCones x = Check.with("", none, none);
            Check.due("TERMS of '" + none + "'", x.count(2), 0);
            Check.due("GENERATORS '" + none + "'", x.count(1), 0);
            Check.due("'" + none + "' is well", x.fault(0), -1);
        }
    }

    private static void generatorsAndTheOne() {
        Check.sentence("Texts 0 to 5 (GENERATORS) and 6 (THE ONE)");
        for (int t = 0; t < 8; t++) {
            JanetCones x = new JanetCones();
            Check.text(x, t, "x2");
            Check.due("GENERATORS by text " + t, x.count(1), t < 6 ? 1 : 0);
            Check.due("THE BASIS by text " + t, x.why(2), t < 6 ? 1 : 0);
            Check.due("THE ONE by text " + t, x.count(2), t == 6 ? 1 : 0);
        }
    }

    private static void mostBytes() {
        Check.sentence("Texts 0 to 5 (GENERATORS) and 6 (THE ONE), of up to 30 bytes .. Text 7, of up to 3 bytes");
        for (int t = 0; t < 8; t++) {
            JanetCones x = new JanetCones();
            int most = t == 7 ? 3 : 30;
            Check.many(x, t, 'x', most - 1);
            Check.due("the last one", x.type(t, 'y'), most);
            Check.due("one more", x.type(t, 'y'), -4);
            Check.due("bytes", x.count(0), most);
            Check.due("how many it had", x.wipe(t), most);
        }
    }

    /** The FAULT in each of texts 0 to 6. */
    private static void fault(String text, int due) {
        for (int t = 0; t < 7; t++) {
            JanetCones x = new JanetCones();
            Check.text(x, t, text);
            Check.due("FAULT of '" + text + "'", x.fault(t), due);
        }
    }

    private static void signs() {
        Check.sentence("TERMS with + or - between them, perhaps a - ahead of the first");
        fault("-x", -1);
        fault("+x", 0);
        fault("--x", 1);
        fault("-+x", 1);
        fault("x+y-z", -1);
        fault("x++y", 2);
        fault("x+-y", 2);
        fault("x-+y", 2);
        fault("x--y", 2);
        JanetCones x = Check.with("", "-x+y-z");
        int[] due = {30, 1, 30};
        for (int i = 0; i < 3; i++) Check.due("-x+y-z", x.term(6, i, 0), due[i]);
    }

    private static void figures() {
        Check.sentence("each a figure 1 to 9, letters x, y, z .. or both, the figure first");
        for (int figure = 1; figure <= 9; figure++) {
            fault("" + figure, -1);
            fault(figure + "z", -1);
            fault("-" + figure, -1);
            fault("z3" + figure, 2);
            fault("1" + figure, 1);
            Check.due("the figure", Check.with("", figure + "y").term(6, 0, 0), figure);
            Check.due("the figure alone", Check.with("", "" + figure).term(6, 0, 0), figure);
            Check.due("the figure alone", Check.with("", "" + figure).term(6, 0, 1), 0);
        }
        fault("0", 0);
        fault("0x", 0);
        fault("x+0", 2);
        fault("10", 1);
        fault("w", 0);
        fault("{", 0);
        fault("X", 0);
    }

    private static void powers() {
        Check.sentence("each of these perhaps with a figure 2 to 9 behind it (so often)");
        for (int place = 0; place < 3; place++) {
            String letter = "xyz".substring(place, place + 1);
            int one = new int[] {1024, 32, 1}[place];
            for (int figure = 2; figure <= 9; figure++) {
                Check.due(letter + figure, Check.with("", letter + figure).term(6, 0, 1), one * figure);
            }
            Check.due(letter, Check.with("", letter).term(6, 0, 1), one);
            Check.due("together", Check.with("", letter + "2" + letter + letter + "3").term(6, 0, 1), one * 6);
            fault(letter + "0", 1);
            fault(letter + "1", 1);
            fault(letter + "2", -1);
            fault(letter + "9", -1);
            fault(letter + ":", 1);
        }
    }

    private static void noFigure() {
        Check.sentence("1 is meant where no figure is told");
        for (String text : new String[] {"x", "xyz", "z9"}) {
            Check.due(text, Check.with("", text).term(6, 0, 0), 1);
            Check.due("-" + text, Check.with("", "-" + text).term(6, 0, 0), 30);
            Check.due("1" + text, Check.with("", "1" + text).term(6, 0, 0), 1);
        }
    }

    private static void addedUp() {
        Check.sentence("TERMS of one PRODUCT are added up.");
        JanetCones x = Check.with("", "2xy+3+4yx-9+xy");
        Check.due("xy", x.term(6, 0, 0), 7);
        Check.due("1", x.term(6, 1, 0), 25);
        Check.due("no more", x.term(6, 2, 0), -1);
        x = Check.with("", "1+1+1+1+1+1+1+1+1+1+1+1+1+1+1");
        Check.due("15 TERMS", x.term(6, 0, 0), 15);
    }

    /** Of a text that is well up to its end, which bytes it can go on with; each of the 256 is tried. */
    private static void goOn(int text, String begun, String with) {
        for (int b = 0; b < 256; b++) {
            JanetCones x = new JanetCones();
            Check.text(x, text, begun);
            x.type(text, b);
            int due = with.indexOf(b) < 0 ? begun.length() : b == '+' || b == '-' ? begun.length() + 1 : -1;
            Check.due("FAULT of '" + begun + "' and byte " + b, x.fault(text), due);
        }
    }

    private static void firstByteThatCannot() {
        Check.sentence("The FAULT of a text is the place of the first byte with which it cannot go on");
        String figures = "23456789";
        for (int t : new int[] {0, 5, 6}) {
            goOn(t, "", "-1xyz" + figures);
            goOn(t, "-", "1xyz" + figures);
            goOn(t, "x+", "1xyz" + figures);
            goOn(t, "7-", "1xyz" + figures);
            goOn(t, "7", "+-xyz");
            goOn(t, "-1", "+-xyz");
            goOn(t, "x", "+-xyz" + figures);
            goOn(t, "4z", "+-xyz" + figures);
            goOn(t, "y2", "+-xyz");
            goOn(t, "y2y", "+-xyz" + figures);
            goOn(t, "x+y-z3", "+-xyz");
        }
        fault("x0y+0", 1);
        fault("xy+w+", 3);
    }

    private static void emptyIsWell() {
        Check.sentence("(an empty one is well");
        for (int t = 0; t < 8; t++) {
            JanetCones x = new JanetCones();
            Check.due("new", x.fault(t), -1);
            x.type(t, '?');
            Check.due("not so", x.fault(t), 0);
            x.undo(t);
            Check.due("undone", x.fault(t), -1);
            x.type(t, '?');
            x.wipe(t);
            Check.due("wiped", x.fault(t), -1);
        }
    }

    private static void notEnded() {
        Check.sentence("of one that is not ended, its end)");
        fault("-", 1);
        fault("x+", 2);
        fault("3-", 2);
        fault("x2y+7-", 6);
        fault("x+y+z+x+y+z+x+y+z+x+y+z+x+y+z+", 30);
        fault("x+y+z+x+y+z+x+y+z+x+y+z+x+y+z2", -1);
        for (String name : new String[] {"l", "le", "d", "de", "r", "re"}) {
            Check.due("FAULT of " + name, Check.with(name, "").fault(7), name.length());
        }
    }

    private static void exponentAboveFifteen() {
        Check.sentence("here also of a byte by which an EXPONENT would be above 15");
        for (String l : new String[] {"x", "y", "z"}) {
            fault(l + "9" + l + "6", -1);
            fault(l + "9" + l + "7", 3);
            fault(l + "9" + l + "9", 3);
            fault(l + "9" + l + "6" + l, 4);
            fault(l.repeat(15), -1);
            fault(l.repeat(16), 15);
            fault(l.repeat(15) + "2", 15);
            fault(l.repeat(14) + "2", -1);
            fault(l.repeat(14) + "3", 14);
            fault("3" + l + "9+2" + l + "9" + l + "6-" + l + "9" + l + "7", 13);
            fault(l + "9" + l + "7+?", 3);
        }
        fault("x9x6y9y6z9z6", -1);
        fault("x9y9z9x6y6z7", 11);
        fault("x9x6+x9x6+x9x6", -1);
        fault("x9x6+x", -1);
        Check.due("15 of each", Check.with("", "x9x6y9y6z9z6").term(6, 0, 1), Check.product(15, 15, 15));
    }

    private static void nameOfTheOrder() {
        Check.sentence("Text 7, of up to 3 bytes, is the NAME of the ORDER: lex, deg or rev; its FAULT likewise.");
        String[] begun = {"", "l", "le", "d", "de", "r", "re"};
        String[] with = {"ldr", "e", "x", "e", "g", "e", "v"};
        for (int i = 0; i < begun.length; i++) {
            for (int b = 0; b < 256; b++) {
                JanetCones x = Check.with(begun[i], "");
                x.type(7, b);
                boolean well = with[i].indexOf(b) >= 0;
                int due = !well ? begun[i].length() : begun[i].length() == 2 ? -1 : begun[i].length() + 1;
                Check.due("FAULT of " + begun[i] + " and byte " + b, x.fault(7), due);
                Check.due("ORDER of " + begun[i] + " and byte " + b, x.order(), due != -1 || b == 'g' ? 1 : b == 'x' ? 0 : 2);
            }
        }
    }

    private static void withAFault() {
        Check.sentence("With a FAULT a text is as if it was empty: ZERO");
        for (String text : new String[] {"x+", "x+y0", "z16", "x9x7", "+", "x+y+z2z9z6", "x1"}) {
            JanetCones x = Check.with("", text, text, "y");
            Check.yes("a FAULT", x.fault(6) >= 0);
            Check.due("no TERMS of THE ONE", x.count(2), 0);
            Check.due("no TERM", x.term(0, 0, 0), -1);
            Check.due("one GENERATOR is left", x.count(1), 1);
            Check.due("one STEP", x.why(1), 1);
            Check.due("THE ONE is MADE", x.made(), 1);
            Check.due("all but y are SPARE", x.spare(), 61);
            Check.due("its bytes are there still", x.wipe(0), text.length());
        }
    }

    private static void orderWithAFault() {
        Check.sentence("With a FAULT a text is as if it was empty: .. of the ORDER: deg.");
        for (String name : new String[] {"", "l", "le", "lev", "r", "re", "rex", "LEX", "xel", "?"}) {
            JanetCones x = Check.with(name, "xy+z3+y2");
            Check.due("ORDER of " + name, x.order(), 1);
            Check.due("z3 first", x.term(6, 0, 1), 3);
            Check.due("xy then", x.term(6, 1, 1), 1056);
        }
    }

    private static void everyPair(int order, BiPredicate<int[], int[]> ahead) {
        int[] some = {0, 1, 15, 16, 30, 31};
        JanetCones x = Check.with(ORDERS[order], "");
        for (int i = 0; i < 216; i++) {
            for (int j = 0; j < 216; j++) {
                int[] a = {some[i / 36], some[i / 6 % 6], some[i % 6]};
                int[] b = {some[j / 36], some[j / 6 % 6], some[j % 6]};
                int got = x.ahead(Check.product(a[0], a[1], a[2]), Check.product(b[0], b[1], b[2]));
                Check.due(ORDERS[order] + " " + i + " " + j, got, ahead.test(a, b) ? 1 : 0);
            }
        }
    }

    private static boolean isAheadByLex(int[] a, int[] b) {
        if (a[0] != b[0]) return a[0] > b[0];
        if (a[1] != b[1]) return a[1] > b[1];
        return a[2] > b[2];
    }

    private static int degree(int[] a) {
        return a[0] + a[1] + a[2];
    }

    private static void byLex() {
        Check.sentence("By lex .. if it has the greater EXPONENT of x, of like ones of y, of like ones of z.");
        everyPair(0, TextEdgesTest::isAheadByLex);
    }

    private static void byDeg() {
        Check.sentence("By deg, if it has the greater DEGREE (all EXPONENTS together), of like ones by lex.");
        everyPair(1, (a, b) -> degree(a) != degree(b) ? degree(a) > degree(b) : isAheadByLex(a, b));
    }

    private static void byRev() {
        Check.sentence("By rev, if it has the greater DEGREE, of like ones the less EXPONENT of z, of like ones of y.");
        everyPair(2, (a, b) -> {
            if (degree(a) != degree(b)) return degree(a) > degree(b);
            return a[2] != b[2] ? a[2] < b[2] : a[1] < b[1];
        });
    }

    private static void head() {
        Check.sentence("HEAD of a POLYNOMIAL is the PRODUCT that is AHEAD of all others");
        String text = "y3+xz2+x2";
        int[] due = {Check.product(2, 0, 0), Check.product(1, 0, 2), Check.product(0, 3, 0)};
        for (int o = 0; o < 3; o++) {
            Check.due(ORDERS[o], Check.with(ORDERS[o], text).term(6, 0, 1), due[o]);
            Check.due(ORDERS[o], Check.with(ORDERS[o], "", text).basis(0, 0, 1), due[o]);
        }
    }

    // ---- promises

    private static void newObject() {
        Check.sentence("Promise 1: No texts; all SHEETS are LOST.");
        for (int t = 0; t < 8; t++) Check.due("text " + t, new JanetCones().wipe(t), 0);
        for (int s = 0; s < 4; s++) Check.due("SHEET " + s, new JanetCones().lose(s), -11);
        Check.due("bytes", new JanetCones().count(0), 0);
        Check.due("no FINDING", new JanetCones().count(8), 0);
    }

    private static void type() {
        Check.sentence("Promise 2: A byte (0 to 255) comes behind a text (0 to 7): how many.");
        for (int t = 0; t < 8; t++) {
            JanetCones x = new JanetCones();
            Check.due("byte 0", x.type(t, 0), 1);
            Check.due("byte 255", x.type(t, 255), 2);
            x.wipe(t);
            Check.due("byte 120", x.type(t, 120), 1);
        }
        JanetCones x = new JanetCones();
        Check.text(x, 3, "x2");
        Check.due("behind", x.type(3, 'y'), 3);
        Check.due("x2y", x.term(3, 0, 1), Check.product(2, 1, 0));
    }

    private static void typeBad() {
        Check.sentence("Promise 2: BAD");
        JanetCones x = new JanetCones();
        for (int t : new int[] {-1, 8, LEAST, MOST}) Check.due("text " + t, x.type(t, 'x'), -2);
        for (int b : new int[] {-1, 256, LEAST, MOST, 120 - 256, 120 + 256}) Check.due("byte " + b, x.type(0, b), -2);
        Check.due("nothing typed", x.count(0), 0);
    }

    private static void typeFull() {
        Check.sentence("Promise 2: FULL");
        for (int t = 0; t < 8; t++) {
            JanetCones x = new JanetCones();
            int most = t == 7 ? 3 : 30;
            Check.many(x, t, '1', most);
            Check.due("FULL", x.type(t, 0), -4);
            Check.due("FULL", x.type(t, 255), -4);
            Check.due("BAD first", x.type(t, -1), -2);
            Check.due("BAD first", x.type(t, 256), -2);
            Check.due("FULL is no FINDING", x.count(8), 0);
            Check.due("the others are not", x.type((t + 1) % 8, 'x'), 1);
            x.undo(t);
            Check.due("room again", x.type(t, 'x'), most);
        }
    }

    private static void wipe() {
        Check.sentence("Promise 3: A text is empty: how many bytes it had. BAD.");
        for (int t = 0; t < 8; t++) {
            JanetCones x = new JanetCones();
            int most = t == 7 ? 3 : 30;
            Check.due("none", x.wipe(t), 0);
            x.type(t, 'x');
            Check.due("one", x.wipe(t), 1);
            Check.many(x, t, 'x', most);
            Check.due("all", x.wipe(t), most);
            Check.due("none", x.wipe(t), 0);
            Check.due("room again", x.type(t, 'l'), 1);
        }
        JanetCones x = Check.with("lex", "x", "y");
        for (int t : new int[] {-1, 8, LEAST, MOST}) Check.due("BAD " + t, x.wipe(t), -2);
        Check.due("the others stay", x.count(0), 5);
    }

    private static void undo() {
        Check.sentence("Promise 4: The last byte of a text is undone: how many are left.");
        for (int t = 0; t < 8; t++) {
            JanetCones x = new JanetCones();
            int most = t == 7 ? 3 : 30;
            Check.many(x, t, 'x', most);
            for (int left = most - 1; left >= 0; left--) Check.due("left", x.undo(t), left);
        }
        JanetCones x = Check.with("", "x9x7");
        Check.due("x9x", x.undo(6), 3);
        Check.due("x9x", x.term(6, 0, 1), 10240);
        x = Check.with("lex", "");
        Check.due("le", x.undo(7), 2);
        Check.due("le is no NAME", x.order(), 1);
        Check.due("le is not ended", x.fault(7), 2);
        Check.due("l", x.undo(7), 1);
        Check.due("l is not ended", x.fault(7), 1);
    }

    private static void undoNot() {
        Check.sentence("Promise 4: BAD; NOT: it is empty.");
        JanetCones x = new JanetCones();
        for (int t : new int[] {-1, 8, LEAST, MOST}) Check.due("BAD " + t, x.undo(t), -2);
        for (int t = 0; t < 8; t++) {
            Check.due("NOT", x.undo(t), -3);
            x.type(t, 'x');
            Check.due("one", x.undo(t), 0);
            Check.due("NOT again", x.undo(t), -3);
        }
        Check.due("NOT is no FINDING", x.count(8), 0);
    }

    private static void faultBad() {
        Check.sentence("Promise 5: The FAULT of a text; NONE. BAD.");
        JanetCones x = Check.with("lez", "x+?", "x", "", "", "", "", "y0");
        int[] due = {-1, -1, -1, -1, -1, 1, 2, 2};
        for (int t = 0; t < 8; t++) Check.due("FAULT " + t, x.fault(t), due[t]);
        for (int t : new int[] {-1, 8, LEAST, MOST}) Check.due("BAD " + t, x.fault(t), -2);
    }

    private static void order() {
        Check.sentence("Promise 6: The ORDER: 0 lex, 1 deg, 2 rev.");
        for (int o = 0; o < 3; o++) Check.due(ORDERS[o], Check.with(ORDERS[o], "").order(), o);
        Check.due("none told", new JanetCones().order(), 1);
    }

    private static void productsTold() {
        Check.sentence("Promise 7: PRODUCTS are 1024 times the EXPONENT of x, 32 times that of y, and that of z (0 to 32767).");
        for (String o : ORDERS) {
            JanetCones x = Check.with(o, "");
            Check.due(o + " the last and the first", x.ahead(32767, 0), 1);
            Check.due(o + " the first and the last", x.ahead(0, 32767), 0);
            Check.due(o + " the last itself", x.ahead(32767, 32767), 0);
            Check.due(o + " the first itself", x.ahead(0, 0), 0);
            Check.due(o + " y and z31", x.ahead(32, 31), o.equals("lex") ? 1 : 0);
            Check.due(o + " x and y31z31", x.ahead(1024, 1023), o.equals("lex") ? 1 : 0);
        }
    }

    private static void aheadBad() {
        Check.sentence("Promise 7: BAD.");
        JanetCones x = new JanetCones();
        for (int p : new int[] {-1, 32768, LEAST, MOST}) {
            Check.due("the one " + p, x.ahead(p, 0), -2);
            Check.due("the other " + p, x.ahead(0, p), -2);
            Check.due("both " + p, x.ahead(p, p), -2);
        }
    }

    private static void termsTold() {
        Check.sentence("Promise 8: Of text 0 to 6 the i-th TERM as PRODUCTS are AHEAD (0 to 29)");
        // no text has more TERMS than eleven, which are unlike, or fifteen, of which some are alike
        terms("1+x+y+z+2+x+3+y+4+z+5+x+6+y+7", 3, 1024, 3, 32, 2, 1, 28, 0);
        int[] due = {1, 2048, 1, 1056, 1, 1025, 1, 64, 1, 33, 1, 2, 2, 1024, 2, 32, 1, 1, 1, 0};
        terms("1+z+y+x+z2+yz+y2+xz+xy+x2+y+x", due);
        terms("x+y+x2+xy+xz+y2+yz+z2+x+y+z+1", due);
        int[] eleven = {1, 3072, 1, 2048, 1, 1056, 1, 1025, 1, 64, 1, 33, 1, 2, 1, 1024, 1, 32, 1, 1, 1, 0};
        terms("1+z+y+x+z2+yz+y2+xz+xy+x2+x3", eleven);
        terms("x3+x2+xy+xz+y2+yz+z2+x+y+z+1", eleven);
        terms("x3+x2+xy+xz+y2+yz+z2+x+y+z+1-1", Arrays.copyOf(eleven, 20));
        terms("1+z+y+x+z2+yz+y2+xz+xy+x3-1", 1, 3072, 1, 1056, 1, 1025, 1, 64, 1, 33, 1, 2, 1, 1024, 1, 32, 1, 1);
    }

    private static void terms(String text, int... due) {
        for (int t = 0; t < 7; t++) {
            JanetCones x = new JanetCones();
            Check.text(x, t, text);
            for (int i = 0; i < 30; i++) {
                Check.due("NUMBER " + i, x.term(t, i, 0), 2 * i < due.length ? due[2 * i] : -1);
                Check.due("PRODUCT " + i, x.term(t, i, 1), 2 * i < due.length ? due[2 * i + 1] : -1);
            }
        }
    }

    private static void termNone() {
        Check.sentence("Promise 8: NONE.");
        for (int t = 0; t < 7; t++) {
            JanetCones x = new JanetCones();
            Check.due("of an empty one", x.term(t, 0, 0), -1);
            Check.due("of an empty one, the last", x.term(t, 29, 1), -1);
            Check.text(x, t, "x+y");
            Check.due("the last", x.term(t, 1, 1), 32);
            Check.due("behind the last", x.term(t, 2, 0), -1);
            Check.due("behind the last", x.term(t, 2, 1), -1);
            x.type(t, '+');
            Check.due("with a FAULT", x.term(t, 0, 1), -1);
        }
    }

    private static void termBad() {
        Check.sentence("Promise 8: BAD.");
        for (JanetCones x : new JanetCones[] {new JanetCones(), Check.with("", "x", "y")}) {
            for (int t : new int[] {-1, 7, 8, LEAST, MOST}) Check.due("text " + t, x.term(t, 0, 0), -2);
            for (int i : new int[] {-1, 30, LEAST, MOST}) Check.due("TERM " + i, x.term(0, i, 0), -2);
            for (int w : new int[] {-1, 2, LEAST, MOST}) Check.due("what " + w, x.term(6, 0, w), -2);
        }
    }
}
