/** Promises 16 to 20: THE ONE, SPARE, other ORDERS, and how it is SHOWN. */
public final class OneTest {
    private static final String[] ORDERS = {"lex", "deg", "rev"};

    public static void main(String[] args) {
        badNumbers();
        forms();
        formsThatAreNot();
        aroundThirtyTerms();
        made();
        spare();
        by();
        shown();
        longShown();
        Check.end();
    }

    private static void badNumbers() {
        JanetCones x = Check.with("", "x", "y");
        for (int i : new int[] {-1, 30, Integer.MIN_VALUE, Integer.MAX_VALUE}) Check.due("form " + i, x.form(i, 0), -2);
        for (int w : new int[] {-1, 2, Integer.MIN_VALUE, Integer.MAX_VALUE}) Check.due("form " + w, x.form(0, w), -2);
        for (int o : new int[] {-1, 3, Integer.MIN_VALUE, Integer.MAX_VALUE}) Check.due("by " + o, x.by(o, 0), -2);
        for (int w : new int[] {-1, 4, Integer.MIN_VALUE, Integer.MAX_VALUE}) Check.due("by " + w, x.by(0, w), -2);
        for (int i : new int[] {-2, 24, Integer.MIN_VALUE, Integer.MAX_VALUE}) Check.due("shown " + i, x.shown(i, 0), -2);
        for (int j : new int[] {-2, 300, Integer.MIN_VALUE, Integer.MAX_VALUE}) {
            Check.due("shown " + j, x.shown(0, j), -2);
            Check.due("shown " + j, x.shown(-1, j), -2);
            Check.due("shown " + j, x.shown(23, j), -2);
        }
        Check.due("shown(-1, 299)", x.shown(-1, 299), -1);
        Check.due("shown(23, 299)", x.shown(23, 299), -1);
    }

    private static void form(String due, String order, String one, String... generators) {
        JanetCones x = Check.with(order, one, generators);
        Check.same("NORMAL FORM of " + one, Check.shown(x, -1), due);
        Check.due("made " + one, x.made(), due.equals("0") ? 1 : due.isEmpty() ? -1 : 0);
    }

    private static void forms() {
        form("x2+3y", "", "x2+3y");
        form("0", "", "");
        form("0", "", "x+");
        form("0", "", "7xyz+x", "5");
        form("0", "", "", "x");
        form("9z", "", "x2+xy+9z3", "x-1", "x+y", "2x+y-1", "z2-z");
        form("y2+z", "lex", "x2+z", "x-y");
        form("z30", "lex", "y3", "y-z9z");
        form("x2y2", "deg", "x2y2", "x3", "y3");
        // all PRODUCTS become as low as may be, not the HEAD alone
        form("y3+1", "lex", "y3+x2", "x2-1");
        JanetCones x = Check.with("deg", "x3y2+4xz-7", "x2-yz", "xy-2z2+1");
        for (int i = 0; i < 30; i++) {
            boolean there = x.form(i, 0) != -1;
            Check.yes("NUMBER and PRODUCT together", there == (x.form(i, 1) != -1));
            if (there) Check.due("none is in a CONE", x.cone(x.form(i, 1)), -1);
            if (there && i > 0) Check.due("as PRODUCTS are AHEAD", x.ahead(x.form(i - 1, 1), x.form(i, 1)), 1);
        }
    }

    private static void formsThatAreNot() {
        // there is no BASIS
        form("", "lex", "x", "-x3-y2z2", "4x4y4z4-8");
        form("", "lex", "", "-x3-y2z2", "4x4y4z4-8");
        // WIDE: y4 would become z40
        JanetCones x = Check.with("lex", "y4", "y-z9z");
        form("", "lex", "y4", "y-z9z");
        for (int i = 0; i < 30; i++) Check.due("form " + i, x.form(i, i % 2), -1);
        Check.due("shown(-1, -1)", x.shown(-1, -1), 0);
        Check.due("THE BASIS is there", x.why(0), 0);
        // z31 may be, z32 not
        form("z31", "lex", "y3z", "y-z9z");
        form("", "lex", "y3z2", "y-z9z");
        // WIDE on its way, though it would be ZERO in the end
        form("", "lex", "y4", "y-z9z", "z9z6");
        form("0", "lex", "y3z", "y-z9z", "z9z6");
        form("", "lex", "x9x6", "x-y-z-1");
        // the same of y and of x: 8 times y2 and y15, 6 times x4 and x7
        form("y31", "lex", "x8y9y6", "x-y2");
        form("", "lex", "x9y9y6", "x-y2");
        form("x31", "deg", "x7y9y6z9z6", "y5-x4", "z5-x4");
        form("", "deg", "x8y9y6z9z6", "y5-x4", "z5-x4");
    }

    /** (y+z+1) by 1 to 15 has 3, 6, 10, 15, 21, 28, 36 .. TERMS; on the way there may be more. */
    private static void aroundThirtyTerms() {
        String[] ones = {"x2", "x3", "x4", "x5", "x6", "x7", "x8"};
        String[] more = {"", "+x2", "+y9", "+y9+z9", "+y9+z9+x3", "-y8z2-y7z3", "+x3y5", "+x4z4", "+x4y5", "-x5z", "+x4y7-y8"};
        Model m = new Model();
        int wide = 0;
        int thirty = 0;
        for (String order : ORDERS) {
            for (String generator : new String[] {"x-y-z-1", "x-y-z", "x2-y-z-1", "x-y2-z-2"}) {
                for (String one : ones) {
                    for (String also : more) {
                        m.texts[0] = generator;
                        m.texts[6] = one + also;
                        m.texts[7] = order;
                        m.complete(m.order(), -1);
                        JanetCones x = Check.with(order, one + also, generator);
                        var due = m.form(6, m.order());
                        if (due == null) wide++;
                        else if (due.size() > 26) thirty++;
                        Check.same(order + " " + generator + " " + one + also, Check.shown(x, -1), Model.shown(due));
                        Check.due("made", x.made(), due == null ? -1 : due.isEmpty() ? 1 : 0);
                    }
                }
            }
        }
        Check.yes("some were WIDE", wide > 0);
        Check.yes("some were nearly", thirty > 0);
    }

    private static void made() {
        for (String order : ORDERS) {
            JanetCones x = Check.with(order, "", "x2-yz", "xy-2z2+1");
            Check.due("ZERO is MADE", x.made(), 1);
            String[] yes = {"x2-yz", "xy-2z2+1", "3x2-3yz+xy-2z2+1", "x3-xyz", "x2y-2xz2+x", "x2y-2z2y-y+xy2-x2y+2y", "-5xy+9z2+z2-5", "x2y-2xz2"};
            int[] due = {1, 1, 1, 1, 1, 1, 1, 0};
            for (int i = 0; i < yes.length; i++) {
                Check.text(x, 6, yes[i]);
                Check.due(order + " made " + yes[i], x.made(), due[i]);
            }
            for (String no : new String[] {"1", "x", "x2", "xy", "x2-yz+1", "z9"}) {
                Check.text(x, 6, no);
                Check.due(order + " made " + no, x.made(), 0);
            }
            Check.text(x, 5, "x2");
            Check.text(x, 6, "yz");
            Check.due("a GENERATOR more", x.made(), 1);
        }
    }

    private static void spare(int due, String... generators) {
        for (String order : ORDERS) {
            JanetCones x = Check.with(order, "x", generators);
            Check.due(order + " spare " + String.join(", ", generators), x.spare(), due);
            Check.due("by is by itself", x.by(x.order(), 1), x.why(1));
            Check.due("asked again", x.spare(), due);
        }
    }

    private static void spare() {
        spare(63);
        spare(62, "x");
        spare(63, "x", "x");
        spare(63, "x", "5x", "-x", "x+x");
        spare(60, "x", "y");
        spare(62, "x", "xy");
        spare(61, "xy", "x", "x+");
        spare(31, "", "", "x-x", "+", "", "z");
        spare(63, "x", "y", "x+y");
        spare(62, "3", "x", "y", "z", "x2", "xyz");
        spare(55, "x-1", "x+y", "2x+y-1", "z2-z");
        // the others have no BASIS: not SPARE, though it is the same as another
        JanetCones x = Check.with("lex", "", "-x3-y2z2", "4x4y4z4-8", "x3+y2z2");
        Check.due("spare where there is no BASIS", x.spare(), 56);
        // its NORMAL FORM would be WIDE
        x = Check.with("lex", "", "y-z9z", "y4-y4z");
        Check.due("spare where it would be WIDE", x.spare(), 60);
    }

    private static void by() {
        JanetCones x = Check.with("rev", "", "x2-yz", "xy-2z2+1");
        for (int o = 0; o < 3; o++) {
            JanetCones other = Check.with(ORDERS[o], "", "x2-yz", "xy-2z2+1");
            for (int what = 0; what < 3; what++) Check.due("by " + o, x.by(o, what), other.why(what));
            Check.due("by " + o, x.by(o, 3), other.within(6));
        }
        Check.due("the ORDER stays", x.order(), 2);
        // lex has no BASIS here, the others have
        x = Check.with("", "", "-z+1xzz-1zzy+9", "xz+5zxx+6zz+zz");
        int[] lex = {2, 6, 0, -1};
        for (int what = 0; what < 4; what++) Check.due("by lex " + what, x.by(0, what), lex[what]);
        Check.due("THE BASIS stays", x.why(0), 0);
        int[] deg = {0, 5, 3, 33};
        for (int what = 0; what < 4; what++) Check.due("by deg " + what, x.by(1, what), deg[what]);
        Check.text(x, 7, "lex");
        Check.due("now it is told", x.why(0), 2);
        Check.due("by deg still", x.by(1, 0), 0);
        Check.text(x, 0, "y");
        Check.text(x, 1, "");
        Check.due("changed", x.by(0, 3), 28);
        Check.due("changed", x.by(1, 1), 1);
    }

    private static void shown() {
        for (String order : ORDERS) {
            String[] told = {"", "x-x", "1", "-1", "x", "2x", "9x9x6", "3", "xyz", "-xy2", "z9z"};
            String[] due = {"0", "0", "1", "30", "x", "2x", "9x15", "3", "xyz", "30xy2", "z10"};
            for (int i = 0; i < told.length; i++) {
                JanetCones x = Check.with(order, told[i]);
                Check.same("shown " + told[i], Check.shown(x, -1), due[i]);
                Check.due("how many", x.shown(-1, -1), due[i].length());
                Check.due("beyond", x.shown(-1, due[i].length()), -1);
            }
        }
        Check.same("lex", Check.shown(Check.with("lex", "1+z3+y2z+xz"), -1), "xz+y2z+z3+1");
        Check.same("deg", Check.shown(Check.with("deg", "1+z3+y2z+xz-y3"), -1), "30y3+y2z+z3+xz+1");
        Check.same("rev", Check.shown(Check.with("rev", "7-xz2+y2z+2x3"), -1), "2x3+y2z+30xz2+7");
        JanetCones x = Check.with("lex", "", "2x-4y-6");
        Check.same("one of THE BASIS", Check.shown(x, 0), "x+29y+28");
        Check.due("none", x.shown(1, -1), 0);
        Check.due("none", x.shown(1, 0), -1);
    }

    private static void longShown() {
        JanetCones x = Check.with("rev", "8x9x3y9y2z9z5+8x9x3y9y5z9z5", "3-7x+y2-z3");
        Model m = new Model();
        m.texts[0] = "3-7x+y2-z3";
        m.texts[6] = "8x9x3y9y2z9z5+8x9x3y9y5z9z5";
        m.texts[7] = "rev";
        m.complete(2, -1);
        String due = Model.shown(m.form(6, 2));
        Check.due("longer than can be asked", x.shown(-1, -1), 323);
        Check.due("longer than can be asked", due.length(), 323);
        for (int j = 0; j < 300; j++) Check.due("shown " + j, x.shown(-1, j), due.charAt(j));
        Check.due("300", x.shown(-1, 300), -2);
    }
}
