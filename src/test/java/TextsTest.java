import java.util.ArrayList;
import java.util.List;

/** Promises 1 to 8: a new object and its texts. */
public final class TextsTest {
    private static final int[] NO_TEXT = {-1, 8, 9, -2, Integer.MIN_VALUE, Integer.MAX_VALUE};

    public static void main(String[] args) {
        newObject();
        typing();
        wiping();
        faults();
        names();
        ahead();
        aheadNearTheEnds();
        terms();
        Check.end();
    }

    private static void newObject() {
        JanetCones x = new JanetCones();
        for (int t = 0; t < 8; t++) {
            Check.due("new fault " + t, x.fault(t), -1);
            Check.due("new wipe " + t, x.wipe(t), 0);
            Check.due("new undo " + t, x.undo(t), -3);
        }
        Check.due("new count 8", x.count(8), 0);
        for (int s = 0; s < 4; s++) Check.due("new lose " + s, x.lose(s), -11);
        Check.due("new bytes", x.count(0), 0);
        Check.due("new order", x.order(), 1);
        Check.due("one object has no part in another", new JanetCones().count(8), 0);
    }

    private static void typing() {
        JanetCones x = new JanetCones();
        for (int t : NO_TEXT) Check.due("type to " + t, x.type(t, 120), -2);
        for (int b : new int[] {-1, 256, 300, Integer.MIN_VALUE, Integer.MAX_VALUE}) {
            Check.due("type of " + b, x.type(0, b), -2);
        }
        Check.due("nothing typed", x.count(0), 0);
        for (int t = 0; t < 8; t++) {
            int most = t == 7 ? 3 : 30;
            for (int i = 0; i < most; i++) Check.due("type " + t, x.type(t, i % 2 == 0 ? 0 : 255), i + 1);
            Check.due("type to full " + t, x.type(t, 120), -4);
            Check.due("BAD goes ahead of FULL", x.type(t, 256), -2);
        }
        Check.due("all bytes", x.count(0), 213);
        Check.due("a full text keeps its bytes", x.undo(7), 2);
        Check.due("room again", x.type(7, 1), 3);
    }

    private static void wiping() {
        JanetCones x = new JanetCones();
        for (int t : NO_TEXT) {
            Check.due("wipe " + t, x.wipe(t), -2);
            Check.due("undo " + t, x.undo(t), -2);
            Check.due("fault " + t, x.fault(t), -2);
        }
        Check.text(x, 3, "x2+y");
        Check.due("undo", x.undo(3), 3);
        Check.due("what is left is not ended", x.fault(3), 3);
        Check.due("undo", x.undo(3), 2);
        Check.due("what is left is well", x.term(3, 0, 1), 2048);
        Check.due("wipe", x.wipe(3), 2);
        Check.due("wipe again", x.wipe(3), 0);
        Check.due("undo of none", x.undo(3), -3);
        Check.due("wiped is ZERO", x.term(3, 0, 0), -1);
        Check.text(x, 7, "lex");
        Check.due("order", x.order(), 0);
        x.undo(7);
        Check.due("order of less", x.order(), 1);
        x.type(7, 'x');
        Check.due("order again", x.order(), 0);
        x.wipe(7);
        Check.due("order of none", x.order(), 1);
        Check.text(x, 3, "y");
        Check.due("typed anew", x.term(3, 0, 1), 32);
    }

    private static void fault(String text, int due) {
        for (int t = 0; t < 7; t++) {
            JanetCones x = new JanetCones();
            Check.text(x, t, text);
            Check.due("fault of '" + text + "'", x.fault(t), due);
            if (due >= 0) Check.due("with a FAULT it is ZERO: '" + text + "'", x.term(t, 0, 0), -1);
        }
    }

    private static void faults() {
        for (String well : new String[] {"", "1", "9", "x", "-x", "-9", "x2", "xx", "x2x2", "3x2y9z", "zyx", "x+y-z+1-2",
                "x9x6y9y6z9z6", "x9x6+x9x6-x", "x-x", "y3y3y3y3y3"}) fault(well, -1);
        for (String at0 : new String[] {"+", "+x", "0", "0x", "w", "X", " x", "*", ".", "\u0000", "\u00ff", "/", ":", "{"}) {
            fault(at0, 0);
        }
        for (String at1 : new String[] {"-", "--x", "-+x", "-0", "x0", "x1", "x1y", "x y", "11", "10", "12x", "9 ", "x^2"}) {
            fault(at1, 1);
        }
        for (String at2 : new String[] {"x+", "x-", "x++y", "x+-y", "x-0", "x22", "x23", "-xX", "2x1", "x20", "3-", "9+"}) {
            fault(at2, 2);
        }
        fault("x9x7", 3);
        fault("x9x6x", 4);
        fault("x9x9", 3);
        fault("y9zy7", 4);
        fault("z9xz6yz", 6);
        fault("x9x6+x9x7", 8);
        fault("xxxxxxxxxxxxxxxx", 15);
        fault("xxxxxxxxxxxxxxx2", 15);
        fault("x9y9z9x6y6z7", 11);
    }

    private static void names() {
        String[] names = {"lex", "deg", "rev", "", "l", "le", "d", "de", "r", "re", "lev", "dex", "rex", "dfg", "led",
                "lxx", "x", "Lex", "eex"};
        int[] orders = {0, 1, 2, 1, 1, 1, 1, 1, 1, 1, 1, 1, 1, 1, 1, 1, 1, 1, 1};
        int[] faults = {-1, -1, -1, -1, 1, 2, 1, 2, 1, 2, 2, 2, 2, 1, 2, 1, 0, 0, 0};
        JanetCones x = new JanetCones();
        for (int i = 0; i < names.length; i++) {
            Check.text(x, 7, names[i]);
            Check.due("order of " + names[i], x.order(), orders[i]);
            Check.due("fault of " + names[i], x.fault(7), faults[i]);
        }
    }

    private static void ahead() {
        JanetCones x = new JanetCones();
        int top = Check.product(31, 31, 31);
        for (int p : new int[] {-1, 32768, Integer.MIN_VALUE, Integer.MAX_VALUE}) {
            Check.due("ahead BAD", x.ahead(p, 0), -2);
            Check.due("ahead BAD", x.ahead(0, p), -2);
        }
        for (String order : new String[] {"lex", "deg", "rev"}) {
            Check.text(x, 7, order);
            Check.due("of like ones none is AHEAD", x.ahead(37, 37), 0);
            Check.due(order + " top", x.ahead(top, 0), 1);
            Check.due(order + " top", x.ahead(0, top), 0);
            Check.due(order + " x y", x.ahead(1024, 32), 1);
            Check.due(order + " y z", x.ahead(32, 1), 1);
            Check.due(order + " z 1", x.ahead(1, 0), 1);
        }
        ahead("x over y2z3", Check.product(1, 0, 0), Check.product(0, 2, 3), 1, 0, 0);
        ahead("x2z over xy2", Check.product(2, 0, 1), Check.product(1, 2, 0), 1, 1, 0);
        ahead("xz over y2", Check.product(1, 0, 1), Check.product(0, 2, 0), 1, 1, 0);
        ahead("x2y over xy2", Check.product(2, 1, 0), Check.product(1, 2, 0), 1, 1, 1);
        ahead("x31 over y31z", Check.product(31, 0, 0), Check.product(0, 31, 1), 1, 0, 0);
        ahead("y31 over z31", Check.product(0, 31, 0), Check.product(0, 0, 31), 1, 1, 1);
        ahead("x y31 over x y30 z31", Check.product(1, 31, 0), Check.product(1, 30, 31), 1, 0, 0);
        ahead("x31y31z30 over x31y30z31", Check.product(31, 31, 30), Check.product(31, 30, 31), 1, 1, 1);
        ahead("y31 over x30z", Check.product(0, 31, 0), Check.product(30, 0, 1), 0, 0, 1);
        ahead("x31z31 over x30y31z", Check.product(31, 0, 31), Check.product(30, 31, 1), 1, 1, 0);
    }

    /** All PRODUCTS whose EXPONENTS are near the ends, beside the Model. */
    private static void aheadNearTheEnds() {
        int[] some = {0, 1, 2, 15, 29, 30, 31};
        String[] orders = {"lex", "deg", "rev"};
        for (int o = 0; o < 3; o++) {
            JanetCones x = Check.with(orders[o], "");
            var due = Model.byOrder(o);
            List<List<Integer>> all = new ArrayList<>();
            for (int a : some) for (int b : some) for (int c : some) all.add(List.of(a, b, c));
            for (List<Integer> a : all) {
                for (List<Integer> b : all) {
                    Check.due(orders[o] + a + b, x.ahead(Model.coded(a), Model.coded(b)), due.compare(a, b) < 0 ? 1 : 0);
                }
            }
        }
    }

    private static void ahead(String what, int a, int b, int lex, int deg, int rev) {
        int[] due = {lex, deg, rev};
        String[] orders = {"lex", "deg", "rev"};
        for (int o = 0; o < 3; o++) {
            JanetCones x = Check.with(orders[o], "");
            Check.due(orders[o] + " " + what, x.ahead(a, b), due[o]);
            Check.due(orders[o] + " not " + what, x.ahead(b, a), 1 - due[o]);
        }
    }

    private static void terms(String order, String text, int... due) {
        for (int t = 0; t < 7; t++) {
            JanetCones x = new JanetCones();
            Check.text(x, t, text);
            Check.text(x, 7, order);
            for (int i = 0; i < 30; i++) {
                Check.due(order + " number " + i + " of " + text, x.term(t, i, 0), 2 * i < due.length ? due[2 * i] : -1);
                Check.due(order + " product " + i + " of " + text, x.term(t, i, 1), 2 * i < due.length ? due[2 * i + 1] : -1);
            }
        }
    }

    private static void terms() {
        JanetCones x = Check.with("", "x");
        for (int t : new int[] {-1, 7, 8, Integer.MIN_VALUE, Integer.MAX_VALUE}) Check.due("term", x.term(t, 0, 0), -2);
        for (int i : new int[] {-1, 30, Integer.MIN_VALUE, Integer.MAX_VALUE}) Check.due("term", x.term(6, i, 0), -2);
        for (int w : new int[] {-1, 2, Integer.MIN_VALUE, Integer.MAX_VALUE}) Check.due("term", x.term(6, 0, w), -2);
        Check.due("term 29", x.term(6, 29, 1), -1);
        terms("", "");
        terms("", "7", 7, 0);
        terms("", "-7", 24, 0);
        terms("", "x-x");
        terms("", "9x+9x+9x+4x");
        terms("", "9x+9x+9x+5x", 1, 1024);
        terms("", "-x-x+3-4", 29, 1024, 30, 0);
        terms("lex", "1+z3+y2z+xz", 1, 1025, 1, 65, 1, 3, 1, 0);
        terms("deg", "1+z3+y2z+xz+y3", 1, 96, 1, 65, 1, 3, 1, 1025, 1, 0);
        terms("rev", "1+xz2+y2z+x3+y3+xyz", 1, 3072, 1, 96, 1, 1057, 1, 65, 1, 1026, 1, 0);
        terms("deg", "xyzxyz+x2y2z2", 2, Check.product(2, 2, 2));
        terms("deg", "x9x6y9y6z9z6", 1, Check.product(15, 15, 15));
        terms("lex", "x+");
        terms("lex", "1+z+z2+z3+y+yz+y2+x+xz+xy+x2", 1, 2048, 1, 1056, 1, 1025, 1, 1024, 1, 64, 1, 33, 1, 32, 1, 3, 1, 2, 1, 1, 1, 0);
        terms("lex", "x2+xy+xz+x+y2+yz+y+z3+z2+z+1", 1, 2048, 1, 1056, 1, 1025, 1, 1024, 1, 64, 1, 33, 1, 32, 1, 3, 1, 2, 1, 1, 1, 0);
        terms("lex", "x2+xy+xz+x+y2+yz+y+z3+z2+z+1-1", 1, 2048, 1, 1056, 1, 1025, 1, 1024, 1, 64, 1, 33, 1, 32, 1, 3, 1, 2, 1, 1);
        terms("lex", "x2+xy+xz+x+y2+y-y2-xy-x2-y-x-y", 1, 1025, 30, 32);
        terms("lex", "1+x+y+z+xy+xz+yz+x2+y2+z2+xy", 1, 2048, 2, 1056, 1, 1025, 1, 1024, 1, 64, 1, 33, 1, 32, 1, 2, 1, 1, 1, 0);
    }
}
