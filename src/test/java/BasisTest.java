/** Promises 9 to 15: THE BASIS, its GOOD letters and CONES, and what is OUTSIDE. */
public final class BasisTest {
    private static final int[] NO_NUMBER = {-1, 24, Integer.MIN_VALUE, Integer.MAX_VALUE};

    public static void main(String[] args) {
        badNumbers();
        noGenerators();
        everything();
        twoSquares();
        displaced();
        sentAgain();
        monic();
        noBasis();
        edges();
        orderMatters();
        conesShareNothing();
        Check.end();
    }

    /** WHY and STEPS, then all of THE BASIS as it is SHOWN. */
    private static void basis(JanetCones x, int steps, String... shown) {
        Check.due("why", x.why(0), 0);
        Check.due("steps", x.why(1), steps);
        Check.due("how many", x.why(2), shown.length);
        for (int i = 0; i < 24; i++) {
            Check.same("basis " + i, Check.shown(x, i), i < shown.length ? shown[i] : "");
            Check.yes("size " + i, x.size(i) > 0 == i < shown.length);
        }
    }

    private static void good(JanetCones x, int... letters) {
        for (int i = 0; i < 24; i++) Check.due("good " + i, x.good(i), i < letters.length ? letters[i] : -1);
    }

    private static void badNumbers() {
        JanetCones x = Check.with("", "", "x");
        for (int i : NO_NUMBER) {
            Check.due("basis " + i, x.basis(i, 0, 0), -2);
            Check.due("size " + i, x.size(i), -2);
            Check.due("good " + i, x.good(i), -2);
        }
        for (int w : new int[] {-1, 3, Integer.MIN_VALUE, Integer.MAX_VALUE}) Check.due("why " + w, x.why(w), -2);
        for (int w : new int[] {-1, 2, Integer.MIN_VALUE, Integer.MAX_VALUE}) Check.due("what " + w, x.basis(0, 0, w), -2);
        for (int j : new int[] {-1, 30, Integer.MIN_VALUE, Integer.MAX_VALUE}) Check.due("j " + j, x.basis(0, j, 0), -2);
        for (int p : new int[] {-1, 32768, Integer.MIN_VALUE, Integer.MAX_VALUE}) Check.due("cone " + p, x.cone(p), -2);
        for (int d : new int[] {-1, 31, Integer.MIN_VALUE, Integer.MAX_VALUE}) {
            Check.due("outside " + d, x.outside(d), -2);
            Check.due("within " + d, x.within(d), -2);
        }
        Check.due("basis(23, 29, 1)", x.basis(23, 29, 1), -1);
        Check.due("basis(0, 29, 1)", x.basis(0, 29, 1), -1);
        Check.due("size(23)", x.size(23), 0);
        Check.due("good(23)", x.good(23), -1);
    }

    private static void noGenerators() {
        JanetCones x = Check.with("rev", "x", "x-x", "y+");
        basis(x, 0);
        good(x);
        Check.due("cone(0)", x.cone(0), -1);
        Check.due("cone(32767)", x.cone(32767), -1);
        for (int d = 0; d <= 30; d++) {
            Check.due("all are OUTSIDE", x.outside(d), (d + 1) * (d + 2) / 2);
            Check.due("all are OUTSIDE", x.within(d), (d + 1) * (d + 2) * (d + 3) / 6);
        }
    }

    private static void everything() {
        JanetCones x = Check.with("", "", "5");
        basis(x, 1, "1");
        good(x, 7);
        Check.due("cone(0)", x.cone(0), 0);
        Check.due("cone(32767)", x.cone(32767), 0);
        for (int d = 0; d <= 30; d++) Check.due("none is OUTSIDE", x.outside(d) + x.within(d), 0);
    }

    private static void twoSquares() {
        JanetCones x = Check.with("deg", "", "x2", "y2");
        basis(x, 4, "y2", "x2", "xy2");
        good(x, 6, 7, 6);
        Check.due("y2", x.cone(Check.product(0, 2, 0)), 0);
        Check.due("y31z31", x.cone(Check.product(0, 31, 31)), 0);
        Check.due("x2", x.cone(Check.product(2, 0, 0)), 1);
        Check.due("x31y31z31", x.cone(32767), 1);
        Check.due("xy3z", x.cone(Check.product(1, 3, 1)), 2);
        Check.due("xyz31", x.cone(Check.product(1, 1, 31)), -1);
        int[] outside = {1, 3, 4, 4, 4};
        int all = 0;
        for (int d = 0; d <= 30; d++) {
            int due = d < 5 ? outside[d] : 4;
            all += due;
            Check.due("outside " + d, x.outside(d), due);
            Check.due("within " + d, x.within(d), all);
        }
    }

    private static void displaced() {
        // y2-1 and xy-1 come; x times y2-1 becomes x-y, by which xy-1 goes back to THE PILE and becomes ZERO.
        JanetCones x = Check.with("lex", "", "xy-1", "y2-1");
        basis(x, 4, "y2+30", "x+30y");
        good(x, 6, 7);
        Check.due("basis(1, 1, 0)", x.basis(1, 1, 0), 30);
        Check.due("basis(1, 1, 1)", x.basis(1, 1, 1), 32);
        Check.due("basis(1, 2, 1)", x.basis(1, 2, 1), -1);
        Check.due("size(1)", x.size(1), 2);
        // the lowest HEAD is taken first, of like ones the first; x+y becomes y+1 by x-1, 2x+y-1 then ZERO
        basis(Check.with("", "", "x-1", "x+y", "2x+y-1"), 4, "x+30", "y+1");
        basis(Check.with("", "", "x+y", "x-1"), 3, "x+y", "y+1");
        basis(Check.with("", "", "z3", "z2", "y"), 4, "y", "z2");
    }

    /** What was sent, and GOOD in between, is sent again: found by trying, told alike by the Model. */
    private static void sentAgain() {
        Model m = new Model();
        String[] some = {"xy2+z", "x2z-y", "yz2-x", "x3-z2", "y3-x2z", "z3-xy", "x2y2-z", "xyz-1"};
        for (int a = 0; a < some.length; a++) {
            for (int b = 0; b < some.length; b++) {
                for (String order : new String[] {"lex", "deg", "rev"}) {
                    m.texts[0] = some[a];
                    m.texts[1] = some[b];
                    m.texts[7] = order;
                    m.complete(m.order(), -1);
                    JanetCones x = Check.with(order, "", some[a], some[b]);
                    Check.due(order + " " + some[a] + " " + some[b] + " why", x.why(0), m.why);
                    Check.due(order + " " + some[a] + " " + some[b] + " steps", x.why(1), m.steps);
                    Check.due(order + " " + some[a] + " " + some[b] + " how many", x.why(2), m.basis.size());
                }
            }
        }
    }

    private static void monic() {
        basis(Check.with("", "", "5x+3"), 1, "x+13");
        basis(Check.with("", "", "-x+3"), 1, "x+28");
        for (int figure = 1; figure <= 9; figure++) {
            JanetCones x = Check.with("", "", figure + "x+1");
            Check.due("the HEAD is MONIC", x.basis(0, 0, 0), 1);
            Check.due("and the rest along", x.basis(0, 1, 0) * figure % 31, 1);
        }
    }

    private static void none(int why, int steps, String order, String... generators) {
        JanetCones x = Check.with(order, "", generators);
        Model m = new Model();
        m.texts[7] = order;
        for (int g = 0; g < generators.length; g++) m.texts[g] = generators[g];
        m.complete(m.order(), -1);
        Check.due("why of the Model", m.why, why);
        Check.due("steps of the Model", m.steps, steps);
        Check.due("why", x.why(0), why);
        Check.due("steps", x.why(1), steps);
        Check.due("none is told of it", x.why(2), 0);
        for (int i = 0; i < 24; i++) {
            Check.due("size " + i, x.size(i), 0);
            Check.due("good " + i, x.good(i), -1);
            Check.due("basis " + i, x.basis(i, 0, 0), -1);
            Check.due("basis " + i, x.basis(i, 0, 1), -1);
            Check.due("shown " + i, x.shown(i, -1), 0);
            Check.due("shown " + i, x.shown(i, 0), -1);
        }
        for (int d = 0; d <= 30; d++) {
            Check.due("outside " + d, x.outside(d), -1);
            Check.due("within " + d, x.within(d), -1);
        }
        for (int p = 0; p < 32768; p += 37) Check.due("cone " + p, x.cone(p), -1);
    }

    private static void noBasis() {
        none(1, 120, "deg", "-yyy", "y2x2+y-9z3z3", "-8+2zy3z2-8y3-1x2z");
        none(1, 120, "deg", "-z4z6z4", "zx3y2-9");
        none(2, 7, "lex", "-x3-y2z2", "4x4y4z4-8");
        none(2, 6, "lex", "-z+1xzz-1zzy+9", "xz+5zxx+6zz+zz");
        // WIDE when multiplied by a letter that is not GOOD
        none(2, 24, "lex", "x5x4x6+9xy7", "5y5x5y7-z6x");
        none(2, 11, "lex", "7xx7-z2y5x7-z4", "z6z5y3-9z4z4x6");
        none(2, 6, "lex", "y5z7y+z5+x5", "3x7+z5zy3", "x6zy6+z4y5+x4");
        none(3, 41, "rev", "y2+z3", "z4y3z3", "8-1x3");
        none(3, 33, "deg", "x9x6", "y9y6", "z9z6");
    }

    private static void edges() {
        // x becomes z21, y z10; x times y-z10 is lastly made of z31, which is well
        JanetCones x = Check.with("lex", "", "x-y2z", "y-z9z");
        basis(x, 3, "y+30z10", "x+30z21");
        // of z32, which is WIDE
        none(2, 3, "lex", "x-y2z2", "y-z9z");
        none(2, 2, "lex", "x-y9y6", "y-z9z6");
        // y turns up with x by 0 to 14, and x by 15 is one more
        x = Check.with("deg", "", "y", "x9x6");
        Check.due("why 16", x.why(0), 0);
        Check.due("how many 16", x.why(2), 16);
        // a BASIS of 24 is well, of 25 not: for x by 0, 1, 2 so many times z as y has there, one of y, and x3
        x = Check.with("deg", "", "x3", "y7", "z", "x2y6");
        Check.due("why 24", x.why(0), 0);
        Check.due("how many 24", x.why(2), 24);
        Check.yes("the last one is there", x.size(23) == 1 && x.good(23) >= 0);
        none(3, 44, "deg", "x3", "y7", "z");
        // THE PILE has just 100 (it is LONG then), and would have more than 100
        none(1, 120, "deg", "8y6z5+z+8y2x3z2", "1y7y3", "z7z5y4", "4z7y5y7-x7");
        none(1, 120, "rev", "8x3y-x2", "y2-6y3+z4z4", "yy4y-z4", "x4y-9y2y4y+1x4y3z2+x4-z2");
        none(1, 120, "deg", "x2x2-3z3z3z+y3-z2", "4x3y2", "5y3z-zx2z3-yz", "1z3+y3-xx3");
        none(3, 63, "rev", "y4+3z2+yy2", "y2+7y3-z4zy2+z4-z", "z4-y4-y2z2x2+1x3", "z2y4-z2-x4z2",
                "2x3y2-6y2+y4");
    }

    private static void orderMatters() {
        JanetCones x = Check.with("lex", "", "x-y2", "x2-z");
        Check.same("lex", Check.shown(x, 0), "x+30y2");
        Check.text(x, 7, "deg");
        Check.same("deg", Check.shown(x, 0), "y2+30x");
        Check.text(x, 7, "rev");
        Check.same("rev", Check.shown(x, 0), "y2+30x");
        Check.text(x, 7, "de");
        Check.same("with a FAULT deg", Check.shown(x, 1), "x2+30z");
    }

    /** cone() and outside() are of one mind, and a PRODUCT is in a CONE if and only if a HEAD divides it. */
    private static void conesShareNothing() {
        String[][] sets = {{"x2-yz", "xy-2z2+1"}, {"x2y", "xy3", "z4"}, {"x3y-z2x+2", "y2z2-5x2", "xyz-z+7"},
                {"x2+y2+z2-1", "xy-z", "yz-x"}};
        for (String[] set : sets) {
            for (String order : new String[] {"lex", "deg", "rev"}) {
                JanetCones x = Check.with(order, "", set);
                if (x.why(0) != 0) continue;
                int[] outside = new int[94];
                for (int p = 0; p < 32768; p++) {
                    int a = p >> 10;
                    int b = p >> 5 & 31;
                    int c = p & 31;
                    boolean divided = false;
                    for (int i = 0; i < x.why(2); i++) {
                        int h = x.basis(i, 0, 1);
                        divided |= h >> 10 <= a && (h >> 5 & 31) <= b && (h & 31) <= c;
                    }
                    int cone = x.cone(p);
                    Check.yes("in a CONE as divided", divided == cone >= 0);
                    if (cone < 0) outside[a + b + c]++;
                }
                for (int d = 0; d <= 30; d++) Check.due("outside " + d, x.outside(d), outside[d]);
            }
        }
    }
}
