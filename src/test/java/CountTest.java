import java.util.ArrayList;
import java.util.List;

/** Promises 28 and 29: count and digest, and that asking changes nothing. */
public final class CountTest {
    public static void main(String[] args) {
        counts();
        firstAsked();
        String[][] sets = {{}, {"x"}, {"5"}, {"x2-yz", "xy-2z2+1"}, {"x2y", "xy3", "z4"}, {"x-1", "x+y", "2x+y-1", "z2-z"},
            {"-x3-y2z2", "4x4y4z4-8"}, {"x9x6", "y9y6", "z9z6"}, {"x3y-z2x+2", "y2z2-5x2", "xyz-z+7"}, {"x+", "y-y", "z1"}};
        for (String[] set : sets) {
            for (String order : new String[] {"lex", "deg", "rev", "", "no"}) {
                JanetCones x = Check.with(order, "x3y2+4xz-7", set);
                long first = x.digest();
                Check.due("digest", first, digest(x));
                Check.due("digest again", x.digest(), first);
                Check.due("digest of another like it", Check.with(order, "x3y2+4xz-7", set).digest(), first);
                x.sheet(0, 0, 9);
                x.put(1, 0, 0, 0);
                Check.due("SHEETS and FINDINGS have no part in it", x.digest(), first);
                x.type(6, 'z');
                Check.yes("a byte more is seen", x.digest() != first);
                x.undo(6);
                Check.due("and undone", x.digest(), first);
            }
        }
        Check.due("digest of a new object", new JanetCones().digest(), -6569433358651402205L);
        Check.end();
    }

    private static void counts() {
        JanetCones x = new JanetCones();
        for (int w : new int[] {-1, 9, Integer.MIN_VALUE, Integer.MAX_VALUE}) Check.due("count " + w, x.count(w), -2);
        int[] fresh = {0, 0, 0, 0, 0, 0, 1, 286, 0};
        for (int w = 0; w < 9; w++) Check.due("new count " + w, x.count(w), fresh[w]);
        x = Check.with("rev", "x+y+x-3", "x2", "y2", "x-x", "x+");
        x.put(0, 0, 0, 0);
        // 7 and 3 bytes, 2 and 2 and 3 and 2; OUTSIDE are 1, 3, and nine times 4
        int[] due = {19, 2, 3, 0, 4, 3, 2, 40, 1};
        for (int w = 0; w < 9; w++) Check.due("count " + w, x.count(w), due[w]);
        Check.text(x, 7, "lex");
        Check.text(x, 0, "-x3-y2z2");
        Check.text(x, 1, "4x4y4z4-8");
        int[] none = {32, 2, 3, 2, 7, 0, 0, -1, 1};
        for (int w = 0; w < 9; w++) Check.due("count " + w + " without a BASIS", x.count(w), none[w]);
        findings();
    }

    /** Each call tells of the texts as they are now, though it is the first after a change. */
    private static void firstAsked() {
        for (int call = 0; call < 24; call++) {
            JanetCones x = Check.with("lex", "x3y2", "x2-y", "xy-3z");
            x.digest();
            Check.text(x, 0, "y3-2z");
            Check.text(x, 6, "5y4+z");
            Check.text(x, 7, "rev");
            JanetCones due = Check.with("rev", "5y4+z", "y3-2z", "xy-3z");
            due.digest();
            Check.due("first asked " + call, ask(x, call), ask(due, call));
            x.wipe(0);
            due = Check.with("rev", "5y4+z", "", "xy-3z");
            due.digest();
            Check.due("first asked when wiped " + call, ask(x, call), ask(due, call));
            x.undo(1);
            x.undo(6);
            due = Check.with("rev", "5y4+", "", "xy-3");
            due.digest();
            Check.due("first asked when undone " + call, ask(x, call), ask(due, call));
            Check.due("new object asked " + call, ask(new JanetCones(), call), ask(Check.with("", ""), call));
        }
    }

    private static long ask(JanetCones x, int call) {
        switch (call) {
            case 0: return x.fault(0);
            case 1: return x.order();
            case 2: return x.ahead(64, 1025);
            case 3: return x.term(0, 0, 1);
            case 4: return x.why(1);
            case 5: return x.basis(0, 0, 1);
            case 6: return x.size(0) + 7 * x.size(1) + 49 * x.size(2) + 343 * x.size(3) + 2401 * x.size(4) + 16807 * x.size(5);
            case 7: return x.good(0);
            case 8: return x.cone(96);
            case 9: return x.outside(5);
            case 10: return x.within(5);
            case 11: return x.form(0, 1);
            case 12: return x.made();
            case 13: return x.spare();
            case 14: return x.by(0, 1);
            case 15: return x.shown(0, -1);
            case 16: return x.shown(-1, -1);
            case 17: return x.sheet(0, 0, 9) + x.write(0) + x.get(0, 0, 4) + x.get(0, 0, 5);
            case 18: return x.count(1);
            case 19: return x.count(2);
            case 20: return x.count(4);
            case 21: return x.count(6);
            case 22: return x.count(7);
            default: return x.digest();
        }
    }

    private static void findings() {
        JanetCones x = new JanetCones();
        x.lose(9);
        x.type(0, 999);
        x.undo(0);
        Check.due("BAD and NOT are no FINDINGS", x.count(8), 0);
        x.lose(0);
        Check.due("NULL", x.count(8), 1);
        x.sheet(0, 0, -7);
        Check.due("SIZE", x.count(8), 5);
        x.sheet(0, 0, 7);
        Check.due("it stays", x.count(8), 5);
        x.get(0, 0, 7);
        Check.due("INDEX", x.count(8), 2);
        x.get(0, 1, 0);
        Check.due("CAST", x.count(8), 3);
        x.sheet(1, 1, 1);
        x.copy(0, 0, 1, 0, 1);
        Check.due("STORE", x.count(8), 4);
        x.write(3);
        Check.due("NULL", x.count(8), 1);
        x.get(0, 1, 0);
        x.read(0, 3);
        Check.due("NULL", x.count(8), 1);
        x.wipe(0);
        Check.due("it stays", x.count(8), 1);
    }

    /** All that the promise names, in its order. */
    static long digest(JanetCones x) {
        List<Long> all = new ArrayList<>();
        for (int w = 0; w <= 7; w++) all.add((long) x.count(w));
        for (int t = 0; t <= 7; t++) all.add((long) x.fault(t));
        for (int t = 0; t <= 6; t++) {
            for (int i = 0; i <= 4; i++) {
                all.add((long) x.term(t, i, 0));
                all.add((long) x.term(t, i, 1));
            }
        }
        for (int i = 0; i <= 23; i++) {
            all.add((long) x.size(i));
            all.add((long) x.good(i));
            for (int j = 0; j <= 3; j++) {
                all.add((long) x.basis(i, j, 0));
                all.add((long) x.basis(i, j, 1));
            }
            all.add((long) x.shown(i, -1));
            all.add((long) x.shown(i, 2));
        }
        for (int d = 0; d <= 12; d++) {
            all.add((long) x.outside(d));
            all.add((long) x.within(d));
        }
        for (int i = 0; i <= 9; i++) {
            all.add((long) x.form(i, 0));
            all.add((long) x.form(i, 1));
            all.add((long) x.shown(-1, i));
        }
        all.add((long) x.made());
        all.add((long) x.spare());
        for (int o = 0; o <= 2; o++) for (int w = 0; w <= 3; w++) all.add((long) x.by(o, w));
        for (int p : new int[] {0, 37, 1024, 2113, 5218}) all.add((long) x.cone(p));
        long h = 17;
        for (long v : all) h = 31 * h + v;
        return h;
    }
}
