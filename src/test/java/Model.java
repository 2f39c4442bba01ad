import java.util.ArrayList;
import java.util.Comparator;
import java.util.List;
import java.util.Map;
import java.util.TreeMap;
import java.util.regex.Matcher;
import java.util.regex.Pattern;

/** The document told a second time, as plainly and as slowly as may be, to compare with. */
final class Model {
    static final class Wide extends Exception {
        private static final long serialVersionUID = 1L;
    }

    static final class Many extends Exception {
        private static final long serialVersionUID = 1L;
    }

    /** One of THE BASIS, and for which letters it was sent to THE PILE. */
    static final class Member {
        TreeMap<List<Integer>, Integer> poly;
        boolean[] sent = new boolean[3];
    }

    private static final String TERM = "(?:[1-9]?(?:[xyz][2-9]?)+|[1-9])";
    private static final Pattern WHOLE = Pattern.compile("(?:-?" + TERM + "(?:[+-]" + TERM + ")*)?");
    private static final Pattern BEGUN = Pattern.compile("(?:-?(?:" + TERM + "(?:[+-]" + TERM + ")*[+-]?)?)");
    private static final String[] NAMES = {"lex", "deg", "rev"};

    final String[] texts = {"", "", "", "", "", "", "", ""};

    // What the last completion came to.
    int why;
    int steps;
    List<Member> basis;

    static boolean exponentsFit(String text) {
        for (String term : text.split("[+-]")) {
            for (char letter = 'x'; letter <= 'z'; letter++) {
                int all = 0;
                Matcher m = Pattern.compile(letter + "([2-9]?)").matcher(term);
                while (m.find()) all += m.group(1).isEmpty() ? 1 : Integer.parseInt(m.group(1));
                if (all > 15) return false;
            }
        }
        return true;
    }

    int fault(int text) {
        String t = texts[text];
        if (text == 7) {
            if (t.isEmpty()) return -1;
            for (int n = 0; n <= t.length(); n++) {
                boolean any = false;
                for (String name : NAMES) any |= name.startsWith(t.substring(0, n));
                if (!any) return n - 1;
            }
            return t.length() == 3 ? -1 : t.length();
        }
        for (int n = 1; n <= t.length(); n++) {
            String begun = t.substring(0, n);
            if (!BEGUN.matcher(begun).matches() || !exponentsFit(begun)) return n - 1;
        }
        return WHOLE.matcher(t).matches() ? -1 : t.length();
    }

    int order() {
        for (int i = 0; i < 3; i++) if (texts[7].equals(NAMES[i])) return i;
        return 1;
    }

    static int degree(List<Integer> p) {
        return p.get(0) + p.get(1) + p.get(2);
    }

    static int coded(List<Integer> p) {
        return 1024 * p.get(0) + 32 * p.get(1) + p.get(2);
    }

    /** The one that is AHEAD comes first. */
    static Comparator<List<Integer>> byOrder(int order) {
        Comparator<List<Integer>> lex = Comparator.<List<Integer>>comparingInt(p -> -p.get(0))
                .thenComparingInt(p -> -p.get(1)).thenComparingInt(p -> -p.get(2));
        if (order == 0) return lex;
        Comparator<List<Integer>> degrees = Comparator.comparingInt(p -> -degree(p));
        if (order == 1) return degrees.thenComparing(lex);
        return degrees.thenComparingInt(p -> p.get(2)).thenComparingInt(p -> p.get(1));
    }

    TreeMap<List<Integer>, Integer> value(int text, int order) {
        TreeMap<List<Integer>, Integer> poly = new TreeMap<>(byOrder(order));
        if (fault(text) != -1) return poly;
        Matcher m = Pattern.compile("([+-]?)([1-9]?)((?:[xyz][2-9]?)*)").matcher(texts[text]);
        while (m.find()) {
            if (m.group().isEmpty()) continue;
            int number = m.group(2).isEmpty() ? 1 : Integer.parseInt(m.group(2));
            int[] e = new int[3];
            Matcher l = Pattern.compile("([xyz])([2-9]?)").matcher(m.group(3));
            while (l.find()) e[l.group(1).charAt(0) - 'x'] += l.group(2).isEmpty() ? 1 : Integer.parseInt(l.group(2));
            addTo(poly, List.of(e[0], e[1], e[2]), m.group(1).equals("-") ? -number : number);
        }
        return poly;
    }

    static void addTo(Map<List<Integer>, Integer> poly, List<Integer> product, int number) {
        int sum = Math.floorMod(poly.getOrDefault(product, 0) + number, 31);
        if (sum == 0) poly.remove(product);
        else poly.put(product, sum);
    }

    static List<Integer> times(List<Integer> a, List<Integer> b) throws Wide {
        List<Integer> c = List.of(a.get(0) + b.get(0), a.get(1) + b.get(1), a.get(2) + b.get(2));
        for (int e : c) if (e > 31) throw new Wide();
        return c;
    }

    static TreeMap<List<Integer>, Integer> times(TreeMap<List<Integer>, Integer> poly, List<Integer> by, int number)
            throws Wide {
        TreeMap<List<Integer>, Integer> all = new TreeMap<>(poly.comparator());
        for (Map.Entry<List<Integer>, Integer> e : poly.entrySet()) {
            all.put(times(e.getKey(), by), Math.floorMod(e.getValue() * number, 31));
        }
        return all;
    }

    static TreeMap<List<Integer>, Integer> monic(TreeMap<List<Integer>, Integer> poly) {
        TreeMap<List<Integer>, Integer> all = new TreeMap<>(poly.comparator());
        int inverse = java.math.BigInteger.valueOf(poly.firstEntry().getValue())
                .modInverse(java.math.BigInteger.valueOf(31)).intValue();
        poly.forEach((k, v) -> all.put(k, v * inverse % 31));
        return all;
    }

    static boolean good(List<Member> basis, Member one, int letter) {
        List<Integer> mine = one.poly.firstKey();
        for (Member other : basis) {
            if (other == one) continue;
            List<Integer> its = other.poly.firstKey();
            if (its.subList(0, letter).equals(mine.subList(0, letter)) && its.get(letter) > mine.get(letter)) return false;
        }
        return true;
    }

    static int cone(List<Member> basis, List<Integer> p) {
        for (int i = 0; i < basis.size(); i++) {
            boolean in = true;
            List<Integer> head = basis.get(i).poly.firstKey();
            for (int l = 0; l < 3; l++) {
                if (p.get(l) < head.get(l)) in = false;
                if (p.get(l) > head.get(l) && !good(basis, basis.get(i), l)) in = false;
            }
            if (in) return i;
        }
        return -1;
    }

    static TreeMap<List<Integer>, Integer> normal(List<Member> basis, TreeMap<List<Integer>, Integer> poly) throws Wide {
        TreeMap<List<Integer>, Integer> now = new TreeMap<>(poly);
        while (true) {
            List<Integer> goes = null;
            for (List<Integer> p : now.keySet()) {
                if (cone(basis, p) >= 0) {
                    goes = p;
                    break;
                }
            }
            if (goes == null) return now;
            TreeMap<List<Integer>, Integer> by = basis.get(cone(basis, goes)).poly;
            List<Integer> head = by.firstKey();
            List<Integer> left = List.of(goes.get(0) - head.get(0), goes.get(1) - head.get(1), goes.get(2) - head.get(2));
            times(by, left, now.get(goes)).forEach((k, v) -> addTo(now, k, -v));
            if (now.size() > 30) throw new Wide();
        }
    }

    void complete(int order, int without) {
        why = 0;
        steps = 0;
        basis = new ArrayList<>();
        List<TreeMap<List<Integer>, Integer>> pile = new ArrayList<>();
        for (int g = 0; g < 6; g++) {
            TreeMap<List<Integer>, Integer> v = value(g, order);
            if (g != without && !v.isEmpty()) pile.add(monic(v));
        }
        try {
            while (!pile.isEmpty()) {
                if (steps == 120) {
                    why = 1;
                    break;
                }
                steps++;
                step(pile, byOrder(order));
            }
        } catch (Wide w) {
            why = 2;
        } catch (Many m) {
            why = 3;
        }
        if (why != 0) basis = new ArrayList<>();
    }

    private void step(List<TreeMap<List<Integer>, Integer>> pile, Comparator<List<Integer>> order) throws Wide, Many {
        TreeMap<List<Integer>, Integer> least = pile.get(0);
        for (TreeMap<List<Integer>, Integer> p : pile) {
            if (order.compare(p.firstKey(), least.firstKey()) > 0) least = p;
        }
        for (int i = 0; i < pile.size(); i++) {
            if (pile.get(i) == least) {
                pile.remove(i);
                break;
            }
        }
        TreeMap<List<Integer>, Integer> form = normal(basis, least);
        if (form.isEmpty()) return;
        Member fresh = new Member();
        fresh.poly = monic(form);
        List<Integer> head = fresh.poly.firstKey();
        List<Member> stay = new ArrayList<>();
        for (Member m : basis) {
            List<Integer> its = m.poly.firstKey();
            boolean multiple = its.get(0) >= head.get(0) && its.get(1) >= head.get(1) && its.get(2) >= head.get(2);
            if (multiple && !its.equals(head)) send(pile, m.poly);
            else stay.add(m);
        }
        stay.add(fresh);
        basis = stay;
        if (basis.size() > 24) throw new Many();
        for (Member m : basis) {
            for (int l = 0; l < 3; l++) {
                if (good(basis, m, l)) {
                    m.sent[l] = false;
                } else if (!m.sent[l]) {
                    m.sent[l] = true;
                    send(pile, times(m.poly, List.of(l == 0 ? 1 : 0, l == 1 ? 1 : 0, l == 2 ? 1 : 0), 1));
                }
            }
        }
    }

    private static void send(List<TreeMap<List<Integer>, Integer>> pile, TreeMap<List<Integer>, Integer> poly)
            throws Many {
        pile.add(poly);
        if (pile.size() > 100) throw new Many();
    }

    /** By looking at each one, not by counting. */
    int outside(int degree) {
        if (why != 0) return -1;
        int n = 0;
        for (int a = 0; a <= degree; a++) {
            for (int b = 0; a + b <= degree; b++) if (cone(basis, List.of(a, b, degree - a - b)) < 0) n++;
        }
        return n;
    }

    int within(int degree) {
        if (why != 0) return -1;
        int n = 0;
        for (int d = 0; d <= degree; d++) n += outside(d);
        return n;
    }

    /** The NORMAL FORM of a text by the last completion; null, where there is none. */
    TreeMap<List<Integer>, Integer> form(int text, int order) {
        if (why != 0) return null;
        try {
            return normal(basis, value(text, order));
        } catch (Wide w) {
            return null;
        }
    }

    int spare() {
        int bits = 0;
        for (int g = 0; g < 6; g++) {
            if (!value(g, order()).isEmpty()) {
                complete(order(), g);
                TreeMap<List<Integer>, Integer> f = form(g, order());
                if (f == null || !f.isEmpty()) continue;
            }
            bits |= 1 << g;
        }
        return bits;
    }

    static String shown(TreeMap<List<Integer>, Integer> poly) {
        if (poly == null) return "";
        if (poly.isEmpty()) return "0";
        List<String> terms = new ArrayList<>();
        poly.forEach((p, number) -> {
            String t = "";
            for (int l = 0; l < 3; l++) {
                if (p.get(l) > 0) t += "xyz".substring(l, l + 1) + (p.get(l) > 1 ? p.get(l) : "");
            }
            terms.add(number != 1 || t.isEmpty() ? number + t : t);
        });
        return String.join("+", terms);
    }

    static int part(TreeMap<List<Integer>, Integer> poly, int i, int what) {
        if (poly == null || i >= poly.size()) return -1;
        Map.Entry<List<Integer>, Integer> e = new ArrayList<>(poly.entrySet()).get(i);
        return what == 0 ? e.getValue() : coded(e.getKey());
    }
}
