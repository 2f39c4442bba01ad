/** Promises 21 to 27: SHEETS and FINDINGS. */
public final class SheetsTest {
    private static final int LEAST = Integer.MIN_VALUE;
    private static final int[] NO_SHEET = {-1, 4, Integer.MIN_VALUE, Integer.MAX_VALUE};
    private static final int[] NO_FORM = {-1, 3, Integer.MIN_VALUE, Integer.MAX_VALUE};

    public static void main(String[] args) {
        made();
        lost();
        items();
        copies();
        overlapping();
        written();
        read();
        readOnlyBytes();
        Check.end();
    }

    private static void made() {
        JanetCones x = new JanetCones();
        for (int s : NO_SHEET) Check.due("sheet " + s, x.sheet(s, 0, 1), -2);
        for (int f : NO_FORM) Check.due("form " + f, x.sheet(0, f, 1), -2);
        Check.due("61", x.sheet(0, 0, 61), -2);
        Check.due("most", x.sheet(0, 0, Integer.MAX_VALUE), -2);
        Check.due("BAD goes ahead of SIZE", x.sheet(4, 0, -1), -2);
        Check.due("BAD goes ahead of SIZE", x.sheet(0, 3, -1), -2);
        Check.due("no FINDING", x.count(8), 0);
        Check.due("SIZE", x.sheet(0, 0, -1), -15);
        Check.due("SIZE", x.count(8), 5);
        Check.due("SIZE", x.sheet(0, 2, Integer.MIN_VALUE), -15);
        Check.due("still LOST", x.lose(0), -11);
        for (int s = 0; s < 4; s++) {
            for (int f = 0; f < 3; f++) {
                for (int n : new int[] {0, 1, 7, 60}) {
                    Check.due("sheet", x.sheet(s, f, n), n);
                    for (int i = 0; i < n; i++) Check.due("0 at first", x.get(s, f, i), 0);
                    Check.due("and no more", x.get(s, f, n), LEAST);
                    for (int i = 0; i < n; i++) x.put(s, f, i, -1);
                }
            }
            Check.due("a refusal leaves it", x.sheet(s, 0, -1), -15);
            Check.due("a refusal leaves it", x.sheet(s, 0, 61), -2);
            Check.due("a refusal leaves it", x.get(s, 2, 59), -1);
        }
    }

    private static void lost() {
        JanetCones x = new JanetCones();
        for (int s : NO_SHEET) Check.due("lose " + s, x.lose(s), -2);
        Check.due("no FINDING", x.count(8), 0);
        for (int s = 0; s < 4; s++) {
            Check.due("LOST", x.lose(s), -11);
            x.sheet(s, 1, 5 + s);
            Check.due("lose", x.lose(s), 5 + s);
            Check.due("write to LOST", x.write(s), -11);
            Check.due("LOST again", x.lose(s), -11);
            x.sheet(s, 1, 0);
            Check.due("lose none", x.lose(s), 0);
        }
        Check.due("NULL", x.count(8), 1);
    }

    private static void items() {
        JanetCones x = new JanetCones();
        Check.due("NULL", x.put(1, 0, 0, 1), -11);
        Check.due("NULL goes ahead of INDEX", x.put(1, 0, -1, 1), -11);
        x.sheet(1, 1, 3);
        for (int s : NO_SHEET) {
            Check.due("put " + s, x.put(s, 1, 0, 1), -2);
            Check.due("get " + s, x.get(s, 1, 0), LEAST);
        }
        for (int f : NO_FORM) {
            Check.due("put " + f, x.put(1, f, 0, 1), -2);
            Check.due("get " + f, x.get(1, f, 0), LEAST);
        }
        Check.due("BAD is no FINDING", x.count(8), 1);
        Check.due("CAST", x.put(1, 0, 0, 1), -13);
        Check.due("CAST goes ahead of INDEX", x.put(1, 2, 9, 1), -13);
        Check.due("CAST", x.count(8), 3);
        for (int i : new int[] {-1, 3, 60, Integer.MIN_VALUE, Integer.MAX_VALUE}) {
            Check.due("INDEX", x.put(1, 1, i, 1), -12);
            Check.due("INDEX", x.count(8), 2);
            Check.due("get of another FORM", x.get(1, 0, i), LEAST);
            Check.due("CAST", x.count(8), 3);
            Check.due("get", x.get(1, 1, i), LEAST);
            Check.due("INDEX", x.count(8), 2);
        }
        Check.due("get of LOST", x.get(0, 1, 0), LEAST);
        Check.due("NULL", x.count(8), 1);
        Check.due("nothing changed", x.get(1, 1, 0), 0);
        int[] values = {0, 1, -1, 127, 128, 200, 255, 256, -128, -129, 32767, 32768, 65535, 65536, -32769, 70000,
                Integer.MAX_VALUE, Integer.MIN_VALUE};
        for (int v : values) {
            for (int f = 0; f < 3; f++) {
                x.sheet(2, f, 60);
                Check.due("put", x.put(2, f, 59, v), 1);
                Check.due("get", x.get(2, f, 59), f == 0 ? (byte) v : f == 1 ? (short) v : v);
                Check.due("its neighbour", x.get(2, f, 58), 0);
            }
        }
        Check.due("a FINDING stays told", x.count(8), 1);
    }

    private static void copies() {
        JanetCones x = new JanetCones();
        for (int s : NO_SHEET) {
            Check.due("from " + s, x.copy(s, 0, 0, 0, 0), -2);
            Check.due("to " + s, x.copy(0, 0, s, 0, 0), -2);
        }
        Check.due("no FINDING", x.count(8), 0);
        Check.due("both LOST", x.copy(0, 0, 1, 0, 0), -11);
        x.sheet(0, 0, 4);
        Check.due("to LOST", x.copy(0, 0, 1, 0, 0), -11);
        Check.due("from LOST", x.copy(1, 0, 0, 0, 0), -11);
        x.sheet(1, 1, 4);
        Check.due("STORE", x.copy(0, 0, 1, 0, 1), -14);
        Check.due("STORE goes ahead of INDEX", x.copy(0, -1, 1, 0, 1), -14);
        Check.due("STORE, of none too", x.copy(0, 0, 1, 0, 0), -14);
        Check.due("STORE", x.count(8), 4);
        x.sheet(1, 0, 6);
        int most = Integer.MAX_VALUE;
        int[][] index = {{-1, 0, 1}, {0, -1, 1}, {0, 0, -1}, {0, 0, 5}, {4, 0, 1}, {1, 0, 4}, {5, 0, 0}, {0, 7, 0}, {0, 3, 4},
            {0, 6, 1}, {most, 0, 1}, {0, most, 1}, {0, 0, most}, {most, most, most}, {1, 1, most}, {-most, 0, most},
            {Integer.MIN_VALUE, 0, 0}, {0, 0, Integer.MIN_VALUE}};
        for (int[] c : index) Check.due("INDEX " + c[0] + " " + c[1] + " " + c[2], x.copy(0, c[0], 1, c[1], c[2]), -12);
        Check.due("INDEX", x.count(8), 2);
        for (int i = 0; i < 4; i++) x.put(0, 0, i, 10 + i);
        Check.due("none at the ends", x.copy(0, 4, 1, 6, 0), 1);
        Check.due("copy", x.copy(0, 1, 1, 3, 3), 1);
        int[] due = {0, 0, 0, 11, 12, 13};
        for (int i = 0; i < 6; i++) Check.due("copied " + i, x.get(1, 0, i), due[i]);
        x.sheet(2, 0, 4);
        Check.due("all of it", x.copy(0, 0, 2, 0, 4), 1);
        for (int i = 0; i < 4; i++) Check.due("copied " + i, x.get(2, 0, i), 10 + i);
        x.put(0, 0, 1, 99);
        Check.due("a copy is its own", x.get(1, 0, 3), 11);
    }

    private static void overlapping() {
        for (int from = 0; from <= 3; from++) {
            for (int to = 0; to <= 3; to++) {
                JanetCones x = new JanetCones();
                x.sheet(3, 2, 8);
                for (int i = 0; i < 8; i++) x.put(3, 2, i, 1000 * i);
                Check.due("copy", x.copy(3, from, 3, to, 5), 1);
                for (int i = 0; i < 8; i++) {
                    int due = i >= to && i < to + 5 ? 1000 * (i - to + from) : 1000 * i;
                    Check.due("as they were " + i, x.get(3, 2, i), due);
                }
            }
        }
    }

    private static void written() {
        JanetCones x = new JanetCones();
        for (int s : NO_SHEET) Check.due("write " + s, x.write(s), -2);
        Check.due("no FINDING", x.count(8), 0);
        Check.due("LOST", x.write(0), -11);
        Check.due("NULL", x.count(8), 1);
        for (int f = 0; f < 3; f++) {
            for (int n : new int[] {0, 1, 5, 30, 31, 32, 60}) {
                x.sheet(0, f, n);
                for (int i = 0; i < n; i++) x.put(0, f, i, 77);
                Check.due("write", x.write(0), Math.min(31, n));
                for (int i = 0; i < n; i++) {
                    int all = (i + 1) * (i + 2) / 2;
                    int due = i > 30 ? 77 : f == 0 ? (byte) all : all;
                    Check.due("written " + i, x.get(0, f, i), due);
                }
            }
        }
        Check.text(x, 0, "x2");
        Check.text(x, 1, "y2");
        x.sheet(1, 1, 6);
        Check.due("write", x.write(1), 6);
        int[] due = {1, 3, 4, 4, 4, 4};
        for (int i = 0; i < 6; i++) Check.due("written " + i, x.get(1, 1, i), due[i]);
        Check.text(x, 0, "-x3-y2z2");
        Check.text(x, 1, "4x4y4z4-8");
        Check.text(x, 7, "lex");
        Check.due("there is no BASIS", x.write(1), 0);
        Check.due("nothing is written", x.get(1, 1, 1), 3);
        Check.due("and nothing found", x.count(8), 1);
    }

    private static void read() {
        JanetCones x = new JanetCones();
        for (int t : new int[] {-1, 8, Integer.MIN_VALUE, Integer.MAX_VALUE}) Check.due("text " + t, x.read(t, 0), -2);
        for (int s : NO_SHEET) Check.due("sheet " + s, x.read(0, s), -2);
        Check.due("no FINDING", x.count(8), 0);
        Check.due("LOST", x.read(0, 0), -11);
        Check.due("NULL", x.count(8), 1);
        for (int f = 0; f < 3; f++) {
            x.sheet(0, f, 3);
            x.put(0, f, 0, 'x');
            x.put(0, f, 1, '2');
            x.put(0, f, 2, 'y');
            x.wipe(4);
            Check.due("read", x.read(4, 0), 3);
            Check.due("x2y", x.term(4, 0, 1), Check.product(2, 1, 0));
            Check.due("behind", x.read(4, 0), 3);
            Check.due("x2yx2y", x.term(4, 0, 1), Check.product(4, 2, 0));
            Check.due("GENERATOR 4 is there", x.why(2), 1);
            for (int k = 0; k < 8; k++) Check.due("read", x.read(4, 0), 3);
            Check.due("as many as may", x.read(4, 0), 0);
            x.undo(4);
            x.undo(4);
            Check.due("as many as may", x.read(4, 0), 2);
            Check.due("text 7", x.read(7, 0), 3);
            Check.due("text 7 is full", x.read(7, 0), 0);
            x.undo(7);
            Check.due("text 7", x.read(7, 0), 1);
            x.wipe(7);
        }
        x.sheet(1, 2, 60);
        Check.due("of 60 items", x.read(0, 1), 30);
        x.sheet(1, 2, 0);
        Check.due("of none", x.read(1, 1), 0);
    }

    private static void readOnlyBytes() {
        int[][] noBytes = {{-1, -128, 128, 255}, {-1, -256, -136, 256, 'x' + 256, 32767, -32768},
            {-1, 256, 'x' - 256, 'x' + 256, 65536, Integer.MAX_VALUE, Integer.MIN_VALUE}};
        for (int f = 0; f < 3; f++) {
            for (int v : noBytes[f]) {
                for (int at = 0; at < 4; at++) readUpTo(f, v, at);
            }
        }
        for (int f = 1; f < 3; f++) {
            for (int v : new int[] {0, 127, 128, 136, 254, 255}) readWhole(f, v);
        }
        for (int v : new int[] {0, 1, 127}) readWhole(0, v);
        readUpToFull();
        readWhatWasWritten();
    }

    /** Of x3yz with an item that is no byte in place of one, those ahead of it come, and none behind it. */
    private static void readUpTo(int form, int noByte, int at) {
        JanetCones x = new JanetCones();
        String bytes = "x3yz";
        x.sheet(1, form, 4);
        for (int i = 0; i < 4; i++) x.put(1, form, i, i == at ? noByte : bytes.charAt(i));
        String call = "FORM " + form + ", " + noByte + " at " + at;
        Check.text(x, 2, "y-");
        Check.due(call, x.read(2, 1), at);
        Check.due(call + ": bytes", x.count(0), 2 + at);
        Check.due(call + ": FAULT", x.fault(2), at == 0 ? 2 : -1);
        int[] due = {-1, Check.product(1, 0, 0), Check.product(3, 0, 0), Check.product(3, 1, 0)};
        Check.due(call + ": HEAD", x.term(2, 0, 1), due[at]);
        Check.due(call + ": as the first time", x.read(2, 1), at);
        Check.due(call + ": no FINDING", x.count(8), 0);
        Check.due(call + ": the item stays", x.get(1, form, at), form == 0 ? (byte) noByte : form == 1 ? (short) noByte : noByte);
    }

    private static void readWhole(int form, int aByte) {
        JanetCones x = new JanetCones();
        x.sheet(0, form, 2);
        x.put(0, form, 0, 'z');
        x.put(0, form, 1, aByte);
        Check.due("FORM " + form + ", byte " + aByte, x.read(3, 0), 2);
        Check.due("FORM " + form + ", byte " + aByte, x.fault(3), 1);
        Check.due("FORM " + form + ", byte " + aByte, x.count(0), 2);
    }

    private static void readUpToFull() {
        JanetCones x = new JanetCones();
        x.sheet(0, 2, 4);
        for (int i = 0; i < 3; i++) x.put(0, 2, i, "lex".charAt(i));
        x.put(0, 2, 3, -1);
        Check.due("no place for the one that is no byte", x.read(7, 0), 3);
        Check.due("lex", x.order(), 0);
        x.put(0, 2, 2, 'x' - 256);
        x.wipe(7);
        Check.due("not by its lowest bits", x.read(7, 0), 2);
        Check.due("le is not ended", x.fault(7), 2);
        Check.due("deg", x.order(), 1);
    }

    private static void readWhatWasWritten() {
        JanetCones x = new JanetCones();
        x.sheet(3, 0, 16);
        x.write(3);
        Check.due("136 is no byte in a row of bytes", x.read(0, 3), 15);
        x.sheet(3, 1, 31);
        x.write(3);
        Check.due("231 and 253 are, 276 is not, in a row of shorts", x.read(1, 3), 22);
    }
}
