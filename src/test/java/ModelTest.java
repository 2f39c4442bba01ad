import java.util.List;
import java.util.TreeMap;

/** Promises 2 to 20, 28 and 29 beside the Model, over many texts that a row of numbers makes. */
public final class ModelTest {
    private static long seed = 20261118;
    private static final int[] reasons = new int[4];
    private static int wideForms;

    private static int next(int bound) {
        seed = seed * 6364136223846793005L + 1442695040888963407L;
        return (int) ((seed >>> 33) % bound);
    }

    public static void main(String[] args) {
        for (int run = 0; run < 900; run++) {
            JanetCones x = new JanetCones();
            Model m = new Model();
            fill(x, m, run);
            compare("run " + run, x, m);
            // a change of any text must be seen
            int t = next(8);
            if (next(2) == 0) tell(x, m, t, t == 7 ? name() : polynomial(3, 3));
            else if (!m.texts[t].isEmpty()) {
                x.undo(t);
                m.texts[t] = m.texts[t].substring(0, m.texts[t].length() - 1);
            }
            compare("run " + run + " changed", x, m);
        }
        for (int reason = 0; reason < 4; reason++) Check.yes("WHY " + reason + " was met", reasons[reason] > 5);
        Check.yes("a NORMAL FORM that is WIDE was met", wideForms > 5);
        Check.end();
    }

    private static void tell(JanetCones x, Model m, int t, String what) {
        Check.text(x, t, what);
        m.texts[t] = what.substring(0, Math.min(what.length(), t == 7 ? 3 : 30));
    }

    private static void fill(JanetCones x, Model m, int run) {
        int generators = 1 + next(run % 5 == 0 ? 6 : 4);
        int terms = 1 + next(4);
        int top = 1 + next(run % 3 == 0 ? 9 : 4);
        for (int g = 0; g < generators; g++) tell(x, m, next(3) == 0 ? next(6) : g, polynomial(terms, top));
        if (next(4) == 0) tell(x, m, next(6), m.texts[next(6)]);
        tell(x, m, 6, polynomial(6, 3 + top));
        tell(x, m, 7, name());
    }

    private static String name() {
        String[] names = {"lex", "deg", "rev", "lex", "rev", "", "le", "dex", "rev.", "xlx", "r"};
        return names[next(names.length)];
    }

    private static String polynomial(int terms, int top) {
        StringBuilder all = new StringBuilder();
        int n = 1 + next(terms);
        for (int i = 0; i < n; i++) {
            if (i > 0 || next(3) == 0) all.append(next(2) == 0 ? '+' : '-');
            if (i == 0 && all.length() > 0 && next(20) != 0) all.setCharAt(0, '-');
            boolean figure = next(2) == 0;
            if (figure) all.append(1 + next(9));
            int letters = next(4);
            if (!figure && letters == 0) letters = 1;
            for (int k = 0; k < letters; k++) {
                all.append((char) ('x' + next(3)));
                int e = 1 + next(Math.min(9, top));
                if (e > 1) all.append(e);
            }
        }
        if (next(30) == 0) all.setCharAt(next(all.length()), "+-0129xyzw".charAt(next(10)));
        return all.toString();
    }

    private static void compare(String run, JanetCones x, Model m) {
        StringBuilder told = new StringBuilder(run);
        for (String t : m.texts) told.append(" [").append(t).append(']');
        String at = told.append(' ').toString();
        long h = 17;
        int order = m.order();
        m.complete(order, -1);
        reasons[m.why]++;
        int bytes = 0;
        for (String t : m.texts) bytes += t.length();
        int there = 0;
        for (int g = 0; g < 6; g++) if (!m.value(g, order).isEmpty()) there++;
        int[] counts = {bytes, there, m.value(6, order).size(), m.why, m.steps, m.basis.size(), order, m.within(10)};
        for (int what = 0; what < 8; what++) h = 31 * h + same(at + "count " + what, x.count(what), counts[what]);
        for (int t = 0; t < 8; t++) h = 31 * h + same(at + "fault " + t, x.fault(t), m.fault(t));
        for (int t = 0; t < 7; t++) {
            TreeMap<List<Integer>, Integer> v = m.value(t, order);
            for (int i = 0; i < 30; i++) {
                for (int what = 0; what < 2; what++) {
                    int due = same(at + "term " + t + " " + i, x.term(t, i, what), Model.part(v, i, what));
                    if (i < 5) h = 31 * h + due;
                }
            }
        }
        h = compareBasis(at, x, m, h);
        for (int d = 0; d <= 30; d++) {
            if (d > 12 && d % 9 != 0) continue;
            same(at + "outside " + d, x.outside(d), m.outside(d));
            same(at + "within " + d, x.within(d), m.within(d));
            if (d <= 12) h = 31 * (31 * h + m.outside(d)) + m.within(d);
        }
        TreeMap<List<Integer>, Integer> form = m.form(6, order);
        if (m.why == 0 && form == null) wideForms++;
        String shownForm = Model.shown(form);
        Check.same(at + "form", Check.shown(x, -1), shownForm.substring(0, Math.min(300, shownForm.length())));
        for (int i = 0; i < 30; i++) {
            for (int what = 0; what < 2; what++) {
                int due = same(at + "form " + i, x.form(i, what), Model.part(form, i, what));
                if (i < 10) h = 31 * h + due;
            }
            if (i < 10) h = 31 * h + (i < shownForm.length() ? shownForm.charAt(i) : -1);
        }
        h = 31 * h + same(at + "made", x.made(), form == null ? -1 : form.isEmpty() ? 1 : 0);
        int[] cones = new int[5];
        int[] digested = {0, 37, 1024, 2113, 5218};
        for (int k = 0; k < 5; k++) {
            int p = digested[k];
            cones[k] = same(at + "cone " + p, x.cone(p), Model.cone(m.basis, List.of(p >> 10, p >> 5 & 31, p & 31)));
        }
        for (int k = 0; k < 40; k++) {
            int p = next(32768) & (k < 20 ? 7399 : 32767);
            same(at + "cone " + p, x.cone(p), Model.cone(m.basis, List.of(p >> 10, p >> 5 & 31, p & 31)));
        }
        h = 31 * h + same(at + "spare", x.spare(), m.spare());
        for (int o = 0; o < 3; o++) {
            m.complete(o, -1);
            int[] due = {m.why, m.steps, m.basis.size(), m.within(6)};
            for (int what = 0; what < 4; what++) h = 31 * h + same(at + "by " + o + " " + what, x.by(o, what), due[what]);
        }
        for (int k = 0; k < 5; k++) h = 31 * h + cones[k];
        Check.due(at + "digest", x.digest(), h);
    }

    private static long compareBasis(String at, JanetCones x, Model m, long before) {
        long h = before;
        for (int what = 0; what < 3; what++) {
            same(at + "why " + what, x.why(what), what == 0 ? m.why : what == 1 ? m.steps : m.basis.size());
        }
        for (int i = 0; i < 24; i++) {
            Model.Member one = i < m.basis.size() ? m.basis.get(i) : null;
            TreeMap<List<Integer>, Integer> poly = one == null ? null : one.poly;
            int letters = one == null ? -1 : 0;
            for (int l = 0; l < 3 && one != null; l++) if (Model.good(m.basis, one, l)) letters |= 1 << l;
            h = 31 * h + same(at + "size " + i, x.size(i), one == null ? 0 : poly.size());
            h = 31 * h + same(at + "good " + i, x.good(i), letters);
            for (int j = 0; j < 30; j++) {
                for (int what = 0; what < 2; what++) {
                    int due = same(at + "basis " + i + " " + j, x.basis(i, j, what), Model.part(poly, j, what));
                    if (j < 4) h = 31 * h + due;
                }
            }
            String shown = Model.shown(poly);
            Check.same(at + "shown " + i, Check.shown(x, i), shown.substring(0, Math.min(300, shown.length())));
            h = 31 * h + same(at + "shown length " + i, x.shown(i, -1), shown.length());
            h = 31 * h + (shown.length() > 2 ? shown.charAt(2) : -1);
        }
        return h;
    }

    private static int same(String what, int got, int want) {
        Check.due(what, got, want);
        return want;
    }
}
