import java.lang.management.ManagementFactory;

/** Any calls with any numbers: none throws, all end, the same calls give the same answers, and none makes objects. */
public final class AnyCallTest {
    private static final int CALLS = 512;
    private static long seed;

    private static int next(int bound) {
        seed = seed * 6364136223846793005L + 1442695040888963407L;
        return (int) ((seed >>> 33) % bound);
    }

    public static void main(String[] args) {
        for (int run = 0; run < 1500; run++) {
            long first = answers(new JanetCones(), run);
            Check.due("run " + run + " again", answers(new JanetCones(), run), first);
        }
        room();
        Check.end();
    }

    private static long answers(JanetCones x, int run) {
        seed = run;
        long h = run;
        for (int i = 0; i < CALLS; i++) h = 31 * h + answer(x, run % 10 == 0);
        return h;
    }

    private static int number(int bound, boolean wild) {
        int[] far = {-1, -2, 31, 32, 60, 61, 255, 256, 299, 300, 32767, 32768, Integer.MIN_VALUE, Integer.MAX_VALUE};
        if (next(wild ? 3 : 25) == 0) return far[next(far.length)];
        return next(bound + 1);
    }

    private static int answer(JanetCones x, boolean wild) {
        String bytes = "xyzxyzxyzxyzxyz23456789+-+-+-1lexdegrev0w";
        switch (next(33)) {
            case 0: return x.wipe(number(7, wild));
            case 1: return x.undo(number(7, wild));
            case 2: return x.fault(number(7, wild));
            case 3: return x.order();
            case 4: return x.ahead(number(32767, wild), number(32767, wild));
            case 5: return x.term(number(6, wild), number(9, wild), number(1, wild));
            case 6: return x.why(number(2, wild));
            case 7: return x.basis(number(23, wild), number(9, wild), number(1, wild));
            case 8: return x.size(number(23, wild));
            case 9: return x.good(number(23, wild));
            case 10: return x.cone(number(32767, wild));
            case 11: return x.outside(number(30, wild));
            case 12: return x.within(number(30, wild));
            case 13: return x.form(number(9, wild), number(1, wild));
            case 14: return x.made();
            case 15: return x.spare();
            case 16: return x.by(number(2, wild), number(3, wild));
            case 17: return x.shown(number(24, wild) - 1, number(20, wild) - 1);
            case 18: return x.sheet(number(3, wild), number(2, wild), number(60, wild));
            case 19: return next(3) == 0 ? x.lose(number(3, wild)) : x.count(number(8, wild));
            case 20: return x.put(number(3, wild), number(2, wild), number(9, wild), bytes.charAt(next(bytes.length())));
            case 21: return x.get(number(3, wild), number(2, wild), number(60, wild));
            case 22: return x.copy(number(3, wild), number(9, wild), number(3, wild), number(9, wild), number(9, wild));
            case 23: return x.write(number(3, wild));
            case 24: return x.read(number(7, wild), number(3, wild));
            case 25: return x.count(number(8, wild));
            case 26: return (int) x.digest();
            default: return x.type(number(7, wild), wild ? number(255, true) : bytes.charAt(next(bytes.length())));
        }
    }

    /** All rows are made in the constructor, and those are few enough for many objects in one room. */
    private static void room() {
        JanetCones x = Check.with("lex", "x3y2+4xz-7", "x3y-z2x+2", "y2z2-5x2", "xyz-z+7");
        var threads = (com.sun.management.ThreadMXBean) ManagementFactory.getThreadMXBean();
        long me = Thread.currentThread().getId();
        answers(x, 1);
        long before = threads.getThreadAllocatedBytes(me);
        for (int i = 0; i < 300; i++) {
            x.type(i % 7, "xyz+-23".charAt(i % 7));
            x.digest();
            x.sheet(i % 4, i % 3, i % 61);
            x.write(i % 4);
            x.read(i % 8, i % 4);
            if (i % 9 == 0) x.wipe(i % 8);
        }
        long used = threads.getThreadAllocatedBytes(me) - before;
        Check.yes("calls make no objects, not " + used + " bytes", used < 20000);
        before = threads.getThreadAllocatedBytes(me);
        new JanetCones();
        used = threads.getThreadAllocatedBytes(me) - before;
        Check.yes("an object is small, not " + used + " bytes", used < 100000);
        System.out.println("an object takes " + used + " bytes");
    }
}
