import java.util.LinkedHashSet;
import java.util.Set;

/** What the tests share: counting answers that are not as due, and typing whole texts. */
final class Check {
    private static int wrong = 0;
    private static String sentence = "";
    private static final Set<String> broken = new LinkedHashSet<>();

    private Check() {
    }

    /** The sentence of the document that is looked at from here on. */
    static void sentence(String words) {
        sentence = words;
    }

    static void due(String call, long got, long want) {
        if (got == want) return;
        wrong++;
        if (!sentence.isEmpty()) broken.add(sentence);
        if (wrong <= 50) System.out.println(call + " answered " + got + ", due is " + want);
    }

    static void yes(String what, boolean holds) {
        due(what, holds ? 1 : 0, 1);
    }

    /** Ends the test: with exit code 1, if any answer was not as due. */
    static void end() {
        if (wrong == 0) return;
        System.out.println(wrong + " answers are not as due");
        for (String words : broken) System.out.println("does not hold: " + words);
        System.exit(1);
    }

    /** Makes a text be what is told. */
    static void text(JanetCones x, int text, String what) {
        x.wipe(text);
        for (int i = 0; i < what.length(); i++) x.type(text, what.charAt(i));
    }

    /** A new object with the ORDER and THE ONE and GENERATORS that are told. */
    static JanetCones with(String order, String one, String... generators) {
        JanetCones x = new JanetCones();
        text(x, 7, order);
        text(x, 6, one);
        for (int g = 0; g < generators.length; g++) text(x, g, generators[g]);
        return x;
    }

    /** Type the same byte often. */
    static void many(JanetCones x, int text, int b, int times) {
        for (int i = 0; i < times; i++) x.type(text, b);
    }

    /** So many times x, with a sign ahead of each TERM but perhaps the first. */
    static String times(int n, char sign) {
        StringBuilder all = new StringBuilder();
        for (int left = n; left > 0; left -= 9) {
            if (sign == '-' || all.length() > 0) all.append(sign);
            all.append(Math.min(9, left)).append('x');
        }
        return all.toString();
    }

    static int product(int a, int b, int c) {
        return 1024 * a + 32 * b + c;
    }

    /** One of THE BASIS (or of NONE the NORMAL FORM) as it is SHOWN. */
    static String shown(JanetCones x, int i) {
        StringBuilder all = new StringBuilder();
        int length = x.shown(i, JanetCones.NONE);
        for (int j = 0; j < length && j < 300; j++) all.append((char) x.shown(i, j));
        return all.toString();
    }

    static void same(String what, String got, String want) {
        if (got.equals(want)) return;
        due(what + " is '" + got + "', due is '" + want + "'; same", 0, 1);
    }
}
