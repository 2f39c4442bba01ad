/** Each sentence that names an edge, of OUTSIDE, MADE, SPARE and SHOWN in "Terms" and of promises 16 to 20, by itself. */
public final class OneEdgesTest {
    private static final int LEAST = Integer.MIN_VALUE;
    private static final int MOST = Integer.MAX_VALUE;
    private static final String[] ORDERS = {"lex", "deg", "rev"};
    private static final String[] NO_BASIS = {"x-y4", "x8"};

    public static void main(String[] args) {
        outsideOfAllCones();
        madeIfZero();
        spareOfTheOthersAlone();
        spareNotWithoutABasis();
        zeroIsSpare();
        shownAsTheyAreAhead();
        numberShown();
        exponentShown();
        zeroShown();
        formTold();
        formNone();
        formBad();
        formWide();
        madeTold();
        madeNone();
        spareBits();
        byTold();
        byDegreesUpToSix();
        byNone();
        byBad();
        shownBytes();
        shownLongest();
        shownNothing();
        shownBad();
        Check.end();
    }

    // ---- terms

    private static void outsideOfAllCones() {
        Check.sentence("OUTSIDE is a PRODUCT that is in no CONE of THE BASIS.");
        Check.due("1, by no GENERATOR", Check.with("", "").outside(0), 1);
        Check.due("1, by 1", Check.with("", "", "1").outside(0), 0);
        Check.due("1, by x", Check.with("", "", "x").outside(0), 1);
        Check.due("y, z, by x", Check.with("", "", "x").outside(1), 2);
        Check.due("none, by x, y, z", Check.with("", "", "x", "y", "z").outside(1), 0);
        Check.due("those of DEGREE 30, by x", Check.with("", "", "x").outside(30), 31);
    }

    private static void madeIfZero() {
        Check.sentence("A POLYNOMIAL is MADE of GENERATORS, if its NORMAL FORM is ZERO.");
        for (String order : ORDERS) {
            Check.due("ZERO, by none", Check.with(order, "").made(), 1);
            Check.due("1, by none", Check.with(order, "1").made(), 0);
            Check.due("ZERO, by x", Check.with(order, "y-y", "x").made(), 1);
            Check.due("with a FAULT, by x", Check.with(order, "y+", "x").made(), 1);
            Check.due("3xy, by x", Check.with(order, "3xy", "x").made(), 1);
            Check.due("3xy+1, by x", Check.with(order, "3xy+1", "x").made(), 0);
            Check.due("the last PRODUCT that can be told, by 1", Check.with(order, "x9x6y9y6z9z6", "9").made(), 1);
        }
    }

    private static void spare(int due, String order, String... generators) {
        Check.due(order + " SPARE of " + String.join(", ", generators), Check.with(order, "", generators).spare(), due);
    }

    private static void spareOfTheOthersAlone() {
        Check.sentence("SPARE are GENERATORS that are MADE of all the others alone");
        for (String order : ORDERS) {
            spare(62, order, "x");
            spare(31, order, "", "", "", "", "", "x");
            spare(60, order, "x", "y");
            spare(63, order, "x", "x");
            spare(63, order, "x", "", "", "", "", "3x");
            spare(61, order, "x2", "x");
            spare(62, order, "x2", "x2-x3");
            spare(60, order, "x2-x3", "x2-x4z");
            spare(0, order, "x2", "y2", "z2", "xy", "yz", "xz");
            spare(63, order, "x", "y", "z", "x", "y", "z");
            spare(53, order, "x", "y", "xy+x", "z", "xz", "yz");
            spare(63, order, "x+y", "y+z", "x-z");
        }
    }

    private static void spareNotWithoutABasis() {
        Check.sentence("(not, where those have no BASIS)");
        // x8 and 3x8 are alike; by deg all the others have a BASIS, by lex only those of the first
        spare(62, "deg", "x-y4", "x8", "3x8");
        spare(56, "lex", "x-y4", "x8", "3x8");
    }

    private static void zeroIsSpare() {
        Check.sentence("all that are ZERO are SPARE.");
        for (String order : ORDERS) {
            spare(63, order);
            spare(63, order, "x-x", "x+", "", "0", "-", "y9y7");
            spare(62, order, "1");
        }
        spare(60, "lex", NO_BASIS);
        spare(51, "lex", "", "", "x-y4", "x8");
    }

    private static void shown(String due, String order, String one) {
        Check.same(order + " " + one, Check.shown(Check.with(order, one), -1), due);
    }

    private static void shownAsTheyAreAhead() {
        Check.sentence("POLYNOMIALS are SHOWN, from the HEAD on, as PRODUCTS are AHEAD: + between TERMS");
        shown("x2+xz2+y3", "lex", "y3+xz2+x2");
        shown("xz2+y3+x2", "deg", "y3+xz2+x2");
        shown("y3+xz2+x2", "rev", "y3+xz2+x2");
        shown("x", "rev", "x");
        shown("x+30y", "rev", "x-y");
    }

    private static void numberShown() {
        Check.sentence("the NUMBER, if it is not 1 or there is no letter");
        shown("1", "", "1");
        shown("x", "", "1x");
        shown("2x", "", "2x");
        shown("30x", "", "-x");
        shown("9x+9", "", "9x+9");
        shown("10x+10", "", "9x+x+9+1");
        shown("x+1", "", "x+1");
        shown("2", "", "2");
        shown("30", "", "-1");
        for (int n = 2; n <= 30; n++) shown(n + "x", "", Check.times(n, '+'));
    }

    private static void exponentShown() {
        Check.sentence("then x, y, z, each with its EXPONENT, if that is above 1");
        shown("xyz", "", "zyx");
        shown("x2yz", "", "zyxx");
        shown("xy9z10", "", "z9zy9x");
        shown("x15y15z15", "", "x9x6y9y6z9z6");
        shown("z2", "", "z2");
        // y is z10
        for (int e = 2; e <= 31; e++) {
            String one = "y".repeat(e / 10) + "z".repeat(e % 10);
            Check.same("EXPONENT " + e, Check.shown(Check.with("lex", one, "y-z9z"), -1), "z" + e);
        }
    }

    private static void zeroShown() {
        Check.sentence("ZERO as 0.");
        shown("0", "", "");
        shown("0", "", "x-x");
        shown("0", "", "x+");
        Check.same("MADE", Check.shown(Check.with("", "x2", "x"), -1), "0");
        Check.due("one byte", Check.with("", "x2", "x").shown(-1, -1), 1);
        Check.due("the byte 0", Check.with("", "x2", "x").shown(-1, 0), '0');
        Check.due("no more", Check.with("", "x2", "x").shown(-1, 1), -1);
    }

    // ---- promises

    private static void formTold() {
        Check.sentence("Promise 16: Of the NORMAL FORM of THE ONE the i-th TERM (0 to 29): the NUMBER (what = 0), "
            + "the PRODUCT (1)");
        // x6 becomes 28 TERMS, and two more there are
        JanetCones x = Check.with("lex", "x6+y7+2z7", "x-y-z-1");
        Check.due("the first", x.form(0, 0), 1);
        Check.due("the first", x.form(0, 1), Check.product(0, 7, 0));
        Check.due("the 22nd", x.form(22, 0), 2);
        Check.due("the 22nd", x.form(22, 1), 7);
        Check.due("the 28th", x.form(28, 0), 6);
        Check.due("the 28th", x.form(28, 1), 1);
        Check.due("the 29th", x.form(29, 0), 1);
        Check.due("the 29th", x.form(29, 1), 0);
    }

    private static void formNone() {
        Check.sentence("Promise 16: NONE.");
        JanetCones x = Check.with("lex", "x+z", "x-y");
        Check.due("the last", x.form(1, 1), 1);
        for (int i = 2; i < 30; i++) Check.due("behind the last", x.form(i, i % 2), -1);
        for (int i = 0; i < 30; i++) Check.due("of ZERO", Check.with("", "x", "x").form(i, i % 2), -1);
        for (int i = 0; i < 30; i++) Check.due("of a new one", new JanetCones().form(i, i % 2), -1);
        for (int i = 0; i < 30; i++) Check.due("without a BASIS", Check.with("lex", "x", NO_BASIS).form(i, i % 2), -1);
    }

    private static void formBad() {
        Check.sentence("Promise 16: BAD.");
        JanetCones[] some = {new JanetCones(), Check.with("", "x"), Check.with("lex", "x", NO_BASIS)};
        for (JanetCones x : some) {
            for (int i : new int[] {-1, 30, LEAST, MOST}) Check.due("TERM " + i, x.form(i, 0), -2);
            for (int w : new int[] {-1, 2, LEAST, MOST}) Check.due("what " + w, x.form(0, w), -2);
        }
    }

    private static void wide(String one, String... generators) {
        JanetCones x = Check.with("lex", one, generators);
        Check.due("there is a BASIS", x.why(0), 0);
        for (int i = 0; i < 30; i++) Check.due("form of " + one, x.form(i, i % 2), -1);
        Check.due("made " + one, x.made(), -1);
        Check.due("shown " + one, x.shown(-1, -1), 0);
        Check.due("shown " + one, x.shown(-1, 0), -1);
    }

    private static void notWide(String due, String order, String one, String... generators) {
        Check.same("NORMAL FORM of " + one, Check.shown(Check.with(order, one, generators), -1), due);
    }

    private static void formWide() {
        Check.sentence("Promise 16: (None, where it would be WIDE.)");
        // 30 TERMS and 31
        Check.due("30 TERMS", Check.with("lex", "x6+y7+z7", "x-y-z-1").form(29, 0), 1);
        wide("x6+y7+z7+y8", "x-y-z-1");
        wide("x7", "x-y-z-1");
        // 38 TERMS: 9 stay, and 29 of the 30 of another one come
        wide("x2z8+xz+y2+yz+z2+x+y+z5+z+1", "x3+y3x3z4", "y2-z3y4+3z4-1+y3x2");
        // more than 30 TERMS on its way, 4 in the end
        notWide("30yz+6y+6z+1", "lex", "x6", "x-y-z-1", "y2", "z2");
        wide("x7", "x-y-z-1", "y2", "z2");
        // EXPONENTS 31 and 32
        notWide("z31", "lex", "y3z", "y-z9z");
        wide("y3z2", "y-z9z");
        notWide("y31", "lex", "x8y9y6", "x-y2");
        wide("x9y8y6", "x-y2");
        notWide("x31", "deg", "x7y9y6z9z6", "y5-x4", "z5-x4");
        Check.due("x32", Check.with("deg", "x8y9y6z9z6", "y5-x4", "z5-x4").made(), -1);
        // z32 on its way, ZERO in the end
        notWide("0", "lex", "y3z", "y-z9z", "z9z6");
        wide("y3z2", "y-z9z", "z9z6");
    }

    private static void madeTold() {
        Check.sentence("Promise 17: Whether THE ONE is MADE of GENERATORS: 1, 0");
        Check.due("of none", new JanetCones().made(), 1);
        Check.due("x of none", Check.with("", "x").made(), 0);
        Check.due("x of x", Check.with("", "x", "x").made(), 1);
        Check.due("x of x2", Check.with("", "x", "x2").made(), 0);
        Check.due("of 30 TERMS", Check.with("lex", "x6+y7+z7", "x-y-z-1").made(), 0);
    }

    private static void madeNone() {
        Check.sentence("Promise 17: NONE: there is no BASIS, or it would be WIDE.");
        Check.due("no BASIS", Check.with("lex", "x", NO_BASIS).made(), -1);
        Check.due("no BASIS, of ZERO too", Check.with("lex", "", NO_BASIS).made(), -1);
        Check.due("LONG", Check.with("deg", "", "z9z2", "z2x8-z").made(), -1);
        Check.due("MANY", Check.with("deg", "", "z", "y9x9x6").made(), -1);
        Check.due("it would be WIDE", Check.with("lex", "y4", "y-z9z").made(), -1);
        Check.due("and is not", Check.with("lex", "y3", "y-z9z").made(), 0);
    }

    private static void spareBits() {
        Check.sentence("Promise 18: SPARE, as bits.");
        for (int g = 0; g < 6; g++) {
            JanetCones x = new JanetCones();
            Check.text(x, g, "x2-y");
            Check.due("all but " + g, x.spare(), 63 - (1 << g));
            Check.text(x, (g + 1) % 6, "3x2-3y");
            Check.due("two alike", x.spare(), 63);
        }
        Check.due("a new one", new JanetCones().spare(), 63);
        JanetCones x = Check.with("", "", "x");
        Check.due("of x", x.spare(), 62);
        Check.text(x, 1, "y");
        Check.due("then of x, y", x.spare(), 60);
        Check.text(x, 1, "y-y");
        Check.due("then of x, ZERO", x.spare(), 62);
        // its NORMAL FORM by the others would be WIDE
        spare(60, "lex", "y-z9z", "y4-y4z");
        Check.due("THE ONE has no part in it", Check.with("", "x", "x", "y").spare(), 60);
    }

    private static void byTold() {
        Check.sentence("Promise 19: By another ORDER (0 to 2), in place of what is told: WHY (what = 0), STEPS (1), "
            + "how many are in THE BASIS (2)");
        int[][] due = {{2, 6, 0, -1}, {0, 5, 3, 33}, {0, 5, 3, 33}};
        for (String told : new String[] {"lex", "deg", "rev", "", "le"}) {
            JanetCones x = Check.with(told, "", "-z+1xzz-1zzy+9", "xz+5zxx+6zz+zz");
            int order = x.order();
            for (int o = 2; o >= 0; o--) {
                for (int w = 0; w < 4; w++) Check.due("by " + o + " " + w, x.by(o, w), due[o][w]);
            }
            Check.due("the ORDER stays", x.order(), order);
            Check.due("WHY stays", x.why(0), due[order][0]);
        }
        for (int o = 0; o < 3; o++) {
            int[] none = {0, 0, 0, 84};
            for (int w = 0; w < 4; w++) Check.due("of a new one", new JanetCones().by(o, w), none[w]);
        }
    }

    private static void byDegreesUpToSix() {
        Check.sentence("Promise 19: how many PRODUCTS of DEGREES up to 6 are OUTSIDE (3");
        for (int o = 0; o < 3; o++) {
            Check.due("z5", Check.with("", "", "x", "y", "z5").by(o, 3), 5);
            Check.due("z6", Check.with("", "", "x", "y", "z6").by(o, 3), 6);
            Check.due("z7", Check.with("", "", "x", "y", "z7").by(o, 3), 7);
            Check.due("z8", Check.with("", "", "x", "y", "z8").by(o, 3), 7);
            Check.due("1", Check.with("", "", "1").by(o, 3), 0);
        }
    }

    private static void byNone() {
        Check.sentence("Promise 19: (3; NONE)");
        JanetCones x = Check.with("deg", "", NO_BASIS);
        Check.due("by deg there is one", x.by(1, 0), 0);
        Check.yes("by deg", x.by(1, 3) >= 0);
        int[] due = {2, 2, 0, -1};
        for (int w = 0; w < 4; w++) Check.due("by lex " + w, x.by(0, w), due[w]);
        int[] tooLong = {1, 120, 0, -1};
        for (int w = 0; w < 4; w++) Check.due("LONG", Check.with("lex", "", "z9z2", "z2x8-z").by(1, w), tooLong[w]);
    }

    private static void byBad() {
        Check.sentence("Promise 19: BAD.");
        JanetCones[] some = {new JanetCones(), Check.with("", "", "x"), Check.with("lex", "x", NO_BASIS)};
        for (JanetCones x : some) {
            for (int o : new int[] {-1, 3, LEAST, MOST}) Check.due("ORDER " + o, x.by(o, 0), -2);
            for (int w : new int[] {-1, 4, LEAST, MOST}) Check.due("what " + w, x.by(0, w), -2);
        }
    }

    private static void shownBytes() {
        Check.sentence("Promise 20: The i-th of THE BASIS (0 to 23), or the NORMAL FORM of THE ONE (i = NONE), as it is SHOWN: "
            + "how many bytes (j = NONE), the j-th (0 to 299; NONE)");
        JanetCones x = Check.with("deg", "x2+7", "z", "y9x9x5");
        String[] due = {"x2+7", "z", "x14y9", "xz"};
        for (int i = -1; i < 3; i++) {
            String all = due[i + 1];
            Check.due("how many", x.shown(i, -1), all.length());
            for (int j = 0; j < all.length(); j++) Check.due("byte " + j, x.shown(i, j), all.charAt(j));
            Check.due("behind the last", x.shown(i, all.length()), -1);
            Check.due("the 299th", x.shown(i, 299), -1);
        }
        Check.same("the 23rd", Check.shown(x, 23), "x14y8z");
    }

    private static void shownLongest() {
        Check.sentence("Promise 20: the j-th (0 to 299; NONE)");
        longShown(323, "rev", "8x9x3y9y2z9z5+8x9x3y9y5z9z5", "3-7x+y2-z3");
        // the longest there can be: 30 TERMS, each with two figures for the NUMBER and for each EXPONENT
        longShown(359, "lex", "3x9x5y9y4z9z3+3x9x5y9y5z9z5", "x9x2-6x9xz3+x9xy2-4x9xz-7x9xy2");
    }

    private static void longShown(int bytes, String order, String one, String generator) {
        JanetCones x = Check.with(order, one, generator);
        Model m = new Model();
        m.texts[0] = generator;
        m.texts[6] = one;
        m.texts[7] = order;
        m.complete(m.order(), -1);
        String due = Model.shown(m.form(6, m.order()));
        Check.due("how many", x.shown(-1, -1), bytes);
        Check.due("how many of the Model", due.length(), bytes);
        for (int j : new int[] {0, 1, 298, 299}) Check.due("byte " + j, x.shown(-1, j), due.charAt(j));
        Check.due("the 300th cannot be asked", x.shown(-1, 300), -2);
    }

    private static void shownNothing() {
        Check.sentence("Promise 20: nothing where there is none");
        JanetCones[] some = {new JanetCones(), Check.with("", "", "x"), Check.with("lex", "x", NO_BASIS)};
        for (JanetCones x : some) {
            for (int i = 1; i < 24; i++) {
                Check.due("how many", x.shown(i, -1), 0);
                Check.due("the first", x.shown(i, 0), -1);
                Check.due("the 299th", x.shown(i, 299), -1);
            }
        }
        Check.due("no BASIS", some[2].shown(0, -1), 0);
        Check.due("no NORMAL FORM", some[2].shown(-1, -1), 0);
        Check.due("no NORMAL FORM", some[2].shown(-1, 0), -1);
        Check.due("WIDE", Check.with("lex", "y4", "y-z9z").shown(-1, -1), 0);
        Check.due("ZERO is shown", some[0].shown(-1, -1), 1);
    }

    private static void shownBad() {
        Check.sentence("Promise 20: BAD.");
        JanetCones[] some = {new JanetCones(), Check.with("", "", "x"), Check.with("lex", "x", NO_BASIS)};
        for (JanetCones x : some) {
            for (int i : new int[] {-2, 24, LEAST, MOST}) {
                Check.due("i " + i, x.shown(i, 0), -2);
                Check.due("i " + i, x.shown(i, -1), -2);
            }
            for (int j : new int[] {-2, 300, LEAST, MOST}) {
                Check.due("j " + j, x.shown(-1, j), -2);
                Check.due("j " + j, x.shown(0, j), -2);
                Check.due("j " + j, x.shown(23, j), -2);
            }
        }
    }
}
