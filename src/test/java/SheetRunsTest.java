import java.lang.reflect.Array;

/** Promises 21 to 27 and count() 8 beside rows of the Java machine: what it throws is the FINDING that is due. */
public final class SheetRunsTest {
    private static final Class<?>[] FORMS = {byte.class, short.class, int.class};
    private static final int RUNS = 3000;
    // An object is used for at most 512 calls; of one turn come at most 34.
    private static final int CALLS_TO_BEGIN_A_TURN = 470;

    private static long seed = 20261118;

    private final JanetCones x = new JanetCones();
    private final Object[] rows = new Object[4];
    private final int[] lengths = new int[8];
    private int latest;
    private int calls;

    private static int next(int bound) {
        seed = seed * 6364136223846793005L + 1442695040888963407L;
        return (int) ((seed >>> 33) % bound);
    }

    public static void main(String[] args) {
        for (int run = 0; run < RUNS; run++) new SheetRunsTest().run("run " + run + " call ");
        Check.end();
    }

    private void run(String told) {
        int kind = next(3);
        if (kind == 0) tell(0, "x2y-z");
        // y32 would come, so there is no BASIS
        if (kind == 1) tell(0, "x-y4");
        if (kind == 1) tell(1, "x8");
        if (kind == 1) tell(7, "lex");
        for (int i = 0; calls < CALLS_TO_BEGIN_A_TURN; i++) {
            call(told + i + ": ");
            Check.due(told + i + ": count(8)", x.count(8), latest);
            calls += 2;
        }
    }

    private void tell(int text, String bytes) {
        for (int i = 0; i < bytes.length(); i++) x.type(text, bytes.charAt(i));
        lengths[text] = bytes.length();
        calls += bytes.length();
    }

    private static int number(int top) {
        int[] far = {-1, -2, 59, 60, 61, Integer.MIN_VALUE, Integer.MAX_VALUE};
        return next(15) == 0 ? far[next(far.length)] : next(top + 1);
    }

    private static int value() {
        int[] edges = {127, 128, 255, 256, -1, -128, -129, 32767, 32768, -32769, 65536, Integer.MIN_VALUE, Integer.MAX_VALUE};
        return next(3) == 0 ? edges[next(edges.length)] : next(256);
    }

    private static boolean isIn(int n, int top) {
        return n >= 0 && n <= top;
    }

    private void call(String at) {
        int s = number(3);
        int form = number(2);
        int few = next(2) == 0 ? 3 : 60;
        switch (next(9)) {
            case 0: sheet(at, s, form, number(few)); break;
            case 1: if (next(4) == 0) lose(at, s); break;
            case 2: case 3: put(at, s, form, number(few), value()); break;
            case 4: case 5: get(at, s, form, number(few)); break;
            case 6: copy(at, s, number(few), number(3), number(few), number(few)); break;
            case 7: write(at, s); break;
            default: if (next(3) == 0) wipe(); else read(at, number(7), s); break;
        }
    }

    private int found(RuntimeException thrown) {
        if (thrown instanceof NullPointerException) latest = 1;
        else if (thrown instanceof IndexOutOfBoundsException) latest = 2;
        else if (thrown instanceof ClassCastException) latest = 3;
        else if (thrown instanceof ArrayStoreException) latest = 4;
        else if (thrown instanceof NegativeArraySizeException) latest = 5;
        else throw thrown;
        return -10 - latest;
    }

    private void sheet(String at, int s, int form, int n) {
        int due = -2;
        if (isIn(s, 3) && isIn(form, 2) && n <= 60) {
            try {
                rows[s] = Array.newInstance(FORMS[form], n);
                due = n;
            } catch (NegativeArraySizeException thrown) {
                due = found(thrown);
            }
        }
        Check.due(at + "sheet " + s + " " + form + " " + n, x.sheet(s, form, n), due);
    }

    private void lose(String at, int s) {
        int due = -2;
        if (isIn(s, 3)) {
            due = rows[s] == null ? found(new NullPointerException()) : Array.getLength(rows[s]);
            rows[s] = null;
        }
        Check.due(at + "lose " + s, x.lose(s), due);
    }

    /** NULL comes ahead of CAST, though the machine itself lets null be cast. */
    private Object cast(int s, int form) {
        if (rows[s] == null) throw new NullPointerException();
        return FORMS[form].arrayType().cast(rows[s]);
    }

    private static void store(Object row, int i, int v) {
        if (row instanceof byte[]) ((byte[]) row)[i] = (byte) v;
        else if (row instanceof short[]) ((short[]) row)[i] = (short) v;
        else ((int[]) row)[i] = v;
    }

    private void put(String at, int s, int form, int i, int v) {
        int due = -2;
        if (isIn(s, 3) && isIn(form, 2)) {
            try {
                store(cast(s, form), i, v);
                due = 1;
            } catch (RuntimeException thrown) {
                due = found(thrown);
            }
        }
        Check.due(at + "put " + s + " " + form + " " + i + " " + v, x.put(s, form, i, v), due);
    }

    private void get(String at, int s, int form, int i) {
        int due = Integer.MIN_VALUE;
        if (isIn(s, 3) && isIn(form, 2)) {
            try {
                due = Array.getInt(cast(s, form), i);
            } catch (RuntimeException thrown) {
                found(thrown);
            }
        }
        Check.due(at + "get " + s + " " + form + " " + i, x.get(s, form, i), due);
    }

    private void copy(String at, int s, int i, int t, int j, int n) {
        int due = -2;
        if (isIn(s, 3) && isIn(t, 3)) {
            try {
                System.arraycopy(rows[s], i, rows[t], j, n);
                due = 1;
            } catch (RuntimeException thrown) {
                due = found(thrown);
            }
        }
        Check.due(at + "copy " + s + " " + i + " " + t + " " + j + " " + n, x.copy(s, i, t, j, n), due);
    }

    private void write(String at, int s) {
        int due = -2;
        if (isIn(s, 3)) {
            if (rows[s] == null) {
                due = found(new NullPointerException());
            } else {
                due = x.why(0) != 0 ? 0 : Math.min(31, Array.getLength(rows[s]));
                for (int d = 0; d < due; d++) store(rows[s], d, x.outside(d));
                calls += 1 + due;
            }
        }
        Check.due(at + "write " + s, x.write(s), due);
    }

    private void read(String at, int text, int s) {
        int due = -2;
        if (isIn(text, 7) && isIn(s, 3)) {
            if (rows[s] == null) {
                due = found(new NullPointerException());
            } else {
                int room = (text == 7 ? 3 : 30) - lengths[text];
                int length = Array.getLength(rows[s]);
                due = 0;
                while (due < room && due < length && isIn(Array.getInt(rows[s], due), 255)) due++;
                lengths[text] += due;
            }
        }
        Check.due(at + "read " + text + " " + s, x.read(text, s), due);
    }

    private void wipe() {
        int text = next(8);
        Check.due("wipe " + text, x.wipe(text), lengths[text]);
        lengths[text] = 0;
    }
}
