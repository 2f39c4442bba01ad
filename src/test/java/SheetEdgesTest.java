import java.math.BigInteger;
import java.util.ArrayList;
import java.util.Arrays;
import java.util.List;
import java.util.function.ToIntFunction;

/** Each sentence that names an edge, of SHEETS, FINDINGS and refusals in "Terms" and of promises 21 to 29, by itself. */
public final class SheetEdgesTest {
    private static final int LEAST = Integer.MIN_VALUE;
    private static final int MOST = Integer.MAX_VALUE;
    private static final int[] NO_SHEET = {-1, 4, LEAST, MOST};
    private static final int[] NO_FORM = {-1, 3, LEAST, MOST};

    public static void main(String[] args) {
        lostAtFirst();
        itemsAtFirst();
        findingsAnswer();
        findingNull();
        findingIndex();
        findingCast();
        findingStore();
        findingSize();
        refusalsChangeNothing();
        firstThatFits();
        sheet();
        sheetBad();
        sheetSize();
        lose();
        loseRefused();
        put();
        lowestBits();
        putRefused();
        get();
        getRefused();
        copy();
        copyAsTheyWere();
        copyBad();
        copyNull();
        copyStore();
        copyIndex();
        writeAsMany();
        writeLowestBits();
        writeNone();
        writeRefused();
        readAsMany();
        readBehind();
        readNoByte();
        readRefused();
        counts();
        countUpToTen();
        countLatest();
        countBad();
        digestOfAll();
        digestOfCones();
        digestWraps();
        Check.end();
    }

    /** A SHEET of a FORM with these items. */
    private static void fill(JanetCones x, int s, int form, int... items) {
        x.sheet(s, form, items.length);
        for (int i = 0; i < items.length; i++) x.put(s, form, i, items[i]);
    }

    private static void items(JanetCones x, int s, int form, int... due) {
        for (int i = 0; i < due.length; i++) Check.due("item " + i, x.get(s, form, i), due[i]);
    }

    private static JanetCones noBasis() {
        return Check.with("lex", "x", "x-y4", "x8");
    }

    // ---- terms

    private static void lostAtFirst() {
        Check.sentence("SHEETS 0 .. 3 are LOST (at first)");
        for (int s = 0; s < 4; s++) {
            Check.due("lose", new JanetCones().lose(s), -11);
            Check.due("write", new JanetCones().write(s), -11);
            Check.due("put", new JanetCones().put(s, 0, 0, 0), -11);
        }
        Check.due("there is no SHEET 4", new JanetCones().lose(4), -2);
    }

    private static void itemsAtFirst() {
        Check.sentence("a row of a FORM: 0 bytes, 1 shorts, 2 ints, of 0 to 60 items (0 at first)");
        for (int form = 0; form < 3; form++) {
            for (int n : new int[] {0, 1, 59, 60}) {
                JanetCones x = new JanetCones();
                Check.due("sheet", x.sheet(0, form, n), n);
                for (int i = 0; i < n; i++) Check.due("0 at first", x.get(0, form, i), 0);
                for (int i = 0; i < n; i++) x.put(0, form, i, 7);
                Check.due("no more", x.put(0, form, n, 7), -12);
                Check.due("a new row", x.sheet(0, form, 60), 60);
                for (int i = 0; i < 60; i++) Check.due("0 again", x.get(0, form, i), 0);
            }
        }
    }

    private static void findingsAnswer() {
        Check.sentence("FINDINGS (answers -10 less the number");
        JanetCones x = new JanetCones();
        Check.due("NULL", x.lose(0), -11);
        x.sheet(0, 0, 1);
        x.sheet(1, 1, 1);
        Check.due("INDEX", x.put(0, 0, 1, 0), -12);
        Check.due("CAST", x.put(0, 1, 0, 0), -13);
        Check.due("STORE", x.copy(0, 0, 1, 0, 1), -14);
        Check.due("SIZE", x.sheet(0, 0, -1), -15);
    }

    private static void findingNull() {
        Check.sentence("1 NULL: the SHEET is LOST");
        for (int s = 0; s < 4; s++) {
            JanetCones x = new JanetCones();
            x.sheet(s, 2, 0);
            Check.due("a row of no items is not LOST", x.write(s), 0);
            Check.due("no FINDING", x.count(8), 0);
            x.lose(s);
            Check.due("LOST", x.write(s), -11);
            Check.due("NULL", x.count(8), 1);
        }
    }

    private static void findingIndex() {
        Check.sentence("2 INDEX: there is no such item");
        for (int n : new int[] {0, 1, 60}) {
            JanetCones x = new JanetCones();
            x.sheet(3, 2, n);
            if (n > 0) Check.due("the last", x.put(3, 2, n - 1, 5), 1);
            Check.due("no FINDING", x.count(8), 0);
            for (int i : new int[] {-1, n, n + 1, LEAST, MOST}) {
                x.lose(0);
                Check.due("item " + i + " of " + n, x.put(3, 2, i, 5), -12);
                Check.due("INDEX", x.count(8), 2);
            }
        }
    }

    private static void findingCast() {
        Check.sentence("3 CAST: it has another FORM");
        for (int has = 0; has < 3; has++) {
            for (int as = 0; as < 3; as++) {
                JanetCones x = new JanetCones();
                x.sheet(2, has, 1);
                Check.due("put " + has + " as " + as, x.put(2, as, 0, 5), has == as ? 1 : -13);
                Check.due("count 8", x.count(8), has == as ? 0 : 3);
            }
        }
    }

    private static void findingStore() {
        Check.sentence("4 STORE: unlike FORMS");
        for (int a = 0; a < 3; a++) {
            for (int b = 0; b < 3; b++) {
                JanetCones x = new JanetCones();
                x.sheet(0, a, 2);
                x.sheet(1, b, 2);
                Check.due("copy " + a + " to " + b, x.copy(0, 0, 1, 0, 2), a == b ? 1 : -14);
                Check.due("count 8", x.count(8), a == b ? 0 : 4);
            }
        }
    }

    private static void findingSize() {
        Check.sentence("5 SIZE: below 0.");
        JanetCones x = new JanetCones();
        Check.due("0", x.sheet(0, 0, 0), 0);
        Check.due("no FINDING", x.count(8), 0);
        Check.due("-1", x.sheet(0, 0, -1), -15);
        Check.due("count 8", x.count(8), 5);
        Check.due("the least", x.sheet(0, 0, LEAST), -15);
    }

    /** Texts of which some are empty or full, and SHEETS 0, 1, 2 of FORMS 0, 1, 2; 3 is LOST. */
    private static JanetCones some() {
        JanetCones x = Check.with("lex", "x3y2+4xz-7", "x2-yz", "xy-2z2+1", "x+");
        Check.many(x, 3, 'y', 30);
        fill(x, 0, 0, 1, -2, 3);
        fill(x, 1, 1, 400, -500);
        fill(x, 2, 2, 60000, -70000, 5, 6);
        return x;
    }

    /** All that can be asked of some() without changing anything. */
    private static String state(JanetCones x) {
        List<Long> all = new ArrayList<>();
        all.add(x.digest());
        for (int i = 0; i < 3; i++) all.add((long) x.get(0, 0, i));
        for (int i = 0; i < 2; i++) all.add((long) x.get(1, 1, i));
        for (int i = 0; i < 4; i++) all.add((long) x.get(2, 2, i));
        return all.toString();
    }

    private static void refused(String call, int due, int finding, ToIntFunction<JanetCones> act) {
        JanetCones x = some();
        String before = state(x);
        Check.due("no FINDING before " + call, x.count(8), 0);
        Check.due(call, act.applyAsInt(x), due);
        Check.due("count 8 after " + call, x.count(8), finding);
        Check.same("all the rest after " + call, state(x), before);
        if (finding == 0) return;
        // another FINDING is the latest only until this one comes
        x.sheet(3, 0, -1);
        act.applyAsInt(x);
        Check.due("count 8 after SIZE and " + call, x.count(8), finding);
    }

    private static void bad(String call, ToIntFunction<JanetCones> act) {
        refused(call, -2, 0, act);
    }

    private static void refusalsChangeNothing() {
        Check.sentence("They change nothing (FINDINGS but count() 8).");
        refusedTexts();
        refusedAsking();
        refusedSheets();
        refusedCopies();
        JanetCones x = some();
        Check.due("SHEET 0 has 3", x.lose(0), 3);
        Check.due("SHEET 1 has 2", x.lose(1), 2);
        Check.due("SHEET 2 has 4", x.lose(2), 4);
        Check.due("SHEET 3 is LOST", x.lose(3), -11);
    }

    private static void refusedTexts() {
        for (int t : new int[] {-1, 8, LEAST, MOST}) {
            bad("type " + t, x -> x.type(t, 'x'));
            bad("wipe " + t, x -> x.wipe(t));
            bad("undo " + t, x -> x.undo(t));
            bad("fault " + t, x -> x.fault(t));
            bad("term " + t, x -> x.term(t, 0, 0));
            bad("read " + t, x -> x.read(t, 0));
        }
        for (int b : new int[] {-1, 256, LEAST, MOST}) bad("byte " + b, x -> x.type(4, b));
        refused("a full text", -4, 0, x -> x.type(3, 'y'));
        refused("a full NAME", -4, 0, x -> x.type(7, 'x'));
        refused("an empty text", -3, 0, x -> x.undo(4));
    }

    private static void refusedAsking() {
        for (int n : new int[] {LEAST, -3, MOST, 32768}) {
            bad("ahead", x -> x.ahead(n, 0));
            bad("ahead", x -> x.ahead(0, n));
            bad("term", x -> x.term(0, n, 0));
            bad("term", x -> x.term(0, 0, n));
            bad("why", x -> x.why(n));
            bad("basis", x -> x.basis(n, 0, 0));
            bad("basis", x -> x.basis(0, n, 0));
            bad("basis", x -> x.basis(0, 0, n));
            bad("size", x -> x.size(n));
            bad("good", x -> x.good(n));
            bad("cone", x -> x.cone(n));
            bad("outside", x -> x.outside(n));
            bad("within", x -> x.within(n));
            bad("form", x -> x.form(n, 0));
            bad("form", x -> x.form(0, n));
            bad("by", x -> x.by(n, 0));
            bad("by", x -> x.by(0, n));
            bad("shown", x -> x.shown(n, 0));
            bad("shown", x -> x.shown(0, n));
            bad("count", x -> x.count(n));
        }
    }

    private static void refusedSheets() {
        for (int s : NO_SHEET) {
            bad("sheet", x -> x.sheet(s, 0, 1));
            bad("lose", x -> x.lose(s));
            bad("put", x -> x.put(s, 0, 0, 1));
            refused("get", LEAST, 0, x -> x.get(s, 0, 0));
            bad("copy from", x -> x.copy(s, 0, 0, 0, 1));
            bad("copy to", x -> x.copy(0, 0, s, 0, 1));
            bad("write", x -> x.write(s));
            bad("read", x -> x.read(0, s));
        }
        for (int f : NO_FORM) {
            bad("sheet", x -> x.sheet(0, f, 1));
            bad("put", x -> x.put(0, f, 0, 1));
            refused("get", LEAST, 0, x -> x.get(0, f, 0));
        }
        bad("61", x -> x.sheet(0, 0, 61));
        refused("SIZE", -15, 5, x -> x.sheet(0, 0, -1));
        refused("lose a LOST one", -11, 1, x -> x.lose(3));
        refused("put to a LOST one", -11, 1, x -> x.put(3, 0, 0, 9));
        refused("put CAST", -13, 3, x -> x.put(0, 1, 0, 9));
        refused("put INDEX", -12, 2, x -> x.put(0, 0, 3, 9));
        refused("get of a LOST one", LEAST, 1, x -> x.get(3, 0, 0));
        refused("get CAST", LEAST, 3, x -> x.get(0, 1, 0));
        refused("get INDEX", LEAST, 2, x -> x.get(0, 0, 3));
        refused("write to a LOST one", -11, 1, x -> x.write(3));
        refused("read of a LOST one", -11, 1, x -> x.read(4, 3));
    }

    private static void refusedCopies() {
        refused("copy of a LOST one", -11, 1, x -> x.copy(3, 0, 0, 0, 1));
        refused("copy to a LOST one", -11, 1, x -> x.copy(0, 0, 3, 0, 1));
        refused("copy STORE", -14, 4, x -> x.copy(0, 0, 1, 0, 1));
        refused("copy INDEX", -12, 2, x -> x.copy(0, 1, 0, 0, 3));
        refused("copy INDEX", -12, 2, x -> x.copy(0, 0, 0, 1, 3));
        refused("copy INDEX", -12, 2, x -> x.copy(2, 0, 2, 2, 3));
    }

    private static void firstThatFits() {
        Check.sentence("Refusals, the first that fits, in the order told at each act");
        refused("type: BAD, FULL", -2, 0, x -> x.type(3, 256));
        refused("undo: BAD", -2, 0, x -> x.undo(8));
        refused("sheet: BAD, SIZE", -2, 0, x -> x.sheet(4, 0, -1));
        refused("sheet: BAD, SIZE", -2, 0, x -> x.sheet(0, 3, -1));
        refused("put: BAD, NULL", -2, 0, x -> x.put(3, 3, 0, 0));
        refused("put: NULL, CAST, INDEX", -11, 1, x -> x.put(3, 2, -1, 0));
        refused("put: CAST, INDEX", -13, 3, x -> x.put(0, 2, -1, 0));
        refused("get: BAD, NULL", LEAST, 0, x -> x.get(3, 3, 0));
        refused("get: NULL, CAST, INDEX", LEAST, 1, x -> x.get(3, 2, -1));
        refused("get: CAST, INDEX", LEAST, 3, x -> x.get(0, 2, -1));
        refused("copy: BAD, NULL", -2, 0, x -> x.copy(3, 0, 4, 0, 1));
        refused("copy: BAD, NULL", -2, 0, x -> x.copy(4, 0, 3, 0, 1));
        refused("copy: NULL, STORE, INDEX", -11, 1, x -> x.copy(3, -1, 0, -1, -1));
        refused("copy: NULL, STORE, INDEX", -11, 1, x -> x.copy(0, -1, 3, -1, -1));
        refused("copy: STORE, INDEX", -14, 4, x -> x.copy(0, -1, 1, -1, -1));
        refused("read: BAD, NULL", -2, 0, x -> x.read(8, 3));
        Check.due("outside: BAD, NONE", noBasis().outside(31), -2);
        Check.due("shown: BAD, NONE", noBasis().shown(0, 300), -2);
    }

    // ---- promises

    private static void sheet() {
        Check.sentence("Promise 21: A SHEET is a new row of a FORM with n items: n.");
        for (int s = 0; s < 4; s++) {
            for (int form = 0; form < 3; form++) {
                JanetCones x = new JanetCones();
                Check.due("60", x.sheet(s, form, 60), 60);
                x.put(s, form, 0, 5);
                x.put(s, form, 59, 5);
                Check.due("1", x.sheet(s, form, 1), 1);
                Check.due("a new row", x.get(s, form, 0), 0);
                Check.due("of one item", x.get(s, form, 1), LEAST);
                Check.due("0", x.sheet(s, form, 0), 0);
                Check.due("of none", x.get(s, form, 0), LEAST);
                Check.due("of another FORM", x.sheet(s, (form + 1) % 3, 60), 60);
                Check.due("a new row", x.get(s, (form + 1) % 3, 59), 0);
                Check.due("the others are LOST still", x.lose((s + 1) % 4), -11);
            }
        }
    }

    private static void sheetBad() {
        Check.sentence("Promise 21: BAD: SHEET, FORM, above 60");
        JanetCones x = new JanetCones();
        for (int s : NO_SHEET) Check.due("SHEET " + s, x.sheet(s, 0, 1), -2);
        for (int f : NO_FORM) Check.due("FORM " + f, x.sheet(0, f, 1), -2);
        Check.due("61", x.sheet(0, 0, 61), -2);
        Check.due("the most", x.sheet(0, 0, MOST), -2);
        Check.due("no FINDING", x.count(8), 0);
        Check.due("LOST still", x.lose(0), -11);
        Check.due("60 is well", x.sheet(0, 0, 60), 60);
    }

    private static void sheetSize() {
        Check.sentence("Promise 21: SIZE");
        JanetCones x = new JanetCones();
        Check.due("-1", x.sheet(1, 2, -1), -15);
        Check.due("LOST still", x.write(1), -11);
        fill(x, 1, 2, 8, 9);
        Check.due("the least", x.sheet(1, 0, LEAST), -15);
        items(x, 1, 2, 8, 9);
        Check.due("SIZE", x.count(8), 5);
    }

    private static void lose() {
        Check.sentence("Promise 22: It is LOST: how many items it had.");
        for (int s = 0; s < 4; s++) {
            for (int n : new int[] {0, 1, 60}) {
                JanetCones x = new JanetCones();
                x.sheet(s, 1, n);
                Check.due("lose", x.lose(s), n);
                Check.due("LOST", x.get(s, 1, 0), LEAST);
                Check.due("NULL", x.count(8), 1);
                x.sheet(s, 1, 60);
                Check.due("0 at first", x.get(s, 1, 59), 0);
            }
        }
    }

    private static void loseRefused() {
        Check.sentence("Promise 22: BAD; NULL.");
        JanetCones x = new JanetCones();
        for (int s : NO_SHEET) Check.due("BAD " + s, x.lose(s), -2);
        Check.due("no FINDING", x.count(8), 0);
        for (int s = 0; s < 4; s++) {
            Check.due("at first", x.lose(s), -11);
            x.sheet(s, 0, 3);
            Check.due("lose", x.lose(s), 3);
            Check.due("LOST already", x.lose(s), -11);
        }
    }

    private static void put() {
        Check.sentence("Promise 23: Item i, treated as of a FORM, becomes v .. 1.");
        for (int form = 0; form < 3; form++) {
            JanetCones x = new JanetCones();
            x.sheet(1, form, 60);
            Check.due("the first", x.put(1, form, 0, 11), 1);
            Check.due("the last", x.put(1, form, 59, -12), 1);
            Check.due("the first", x.get(1, form, 0), 11);
            Check.due("the last", x.get(1, form, 59), -12);
            for (int i = 1; i < 59; i++) Check.due("between", x.get(1, form, i), 0);
            Check.due("again", x.put(1, form, 0, 13), 1);
            Check.due("again", x.get(1, form, 0), 13);
        }
    }

    private static void lowestBits() {
        Check.sentence("Promise 23: (the lowest bits that it has)");
        int[] told = {127, 128, 255, 256, -128, -129, 32767, 32768, 65535, 65536, -32768, -32769, MOST, LEAST};
        int[] bytes = {127, -128, -1, 0, -128, 127, -1, 0, -1, 0, 0, -1, -1, 0};
        int[] shorts = {127, 128, 255, 256, -128, -129, 32767, -32768, -1, 0, -32768, 32767, -1, 0};
        JanetCones x = new JanetCones();
        fill(x, 0, 0, told);
        fill(x, 1, 1, told);
        fill(x, 2, 2, told);
        items(x, 0, 0, bytes);
        items(x, 1, 1, shorts);
        items(x, 2, 2, told);
        Check.due("no FINDING", x.count(8), 0);
    }

    private static void putRefused() {
        Check.sentence("Promise 23: BAD; NULL; CAST; INDEX.");
        JanetCones x = new JanetCones();
        x.sheet(0, 1, 2);
        for (int s : NO_SHEET) Check.due("SHEET " + s, x.put(s, 1, 0, 1), -2);
        for (int f : NO_FORM) Check.due("FORM " + f, x.put(0, f, 0, 1), -2);
        for (int f : NO_FORM) Check.due("FORM of a LOST one", x.put(1, f, 0, 1), -2);
        Check.due("NULL", x.put(1, 1, 0, 1), -11);
        Check.due("NULL", x.put(1, 1, 2, 1), -11);
        Check.due("CAST", x.put(0, 0, 0, 1), -13);
        Check.due("CAST", x.put(0, 2, 2, 1), -13);
        for (int i : new int[] {-1, 2, LEAST, MOST}) Check.due("INDEX " + i, x.put(0, 1, i, 1), -12);
        items(x, 0, 1, 0, 0);
    }

    private static void get() {
        Check.sentence("Promise 24: Item i of it.");
        JanetCones x = new JanetCones();
        for (int form = 0; form < 3; form++) {
            x.sheet(form, form, 60);
            for (int i = 0; i < 60; i++) x.put(form, form, i, i - 30);
        }
        for (int form = 0; form < 3; form++) {
            for (int i = 0; i < 60; i++) Check.due("item " + i, x.get(form, form, i), i - 30);
        }
    }

    private static void getRefused() {
        Check.sentence("Promise 24: BAD: the least int; so are NULL, CAST, INDEX (count() 8 tells).");
        JanetCones x = new JanetCones();
        fill(x, 0, 2, LEAST, MOST);
        Check.due("an item that is the least int", x.get(0, 2, 0), LEAST);
        for (int s : NO_SHEET) Check.due("SHEET " + s, x.get(s, 2, 0), LEAST);
        for (int f : NO_FORM) Check.due("FORM " + f, x.get(0, f, 0), LEAST);
        Check.due("no FINDING", x.count(8), 0);
        Check.due("NULL", x.get(1, 2, 0), LEAST);
        Check.due("NULL", x.count(8), 1);
        Check.due("CAST", x.get(0, 0, 0), LEAST);
        Check.due("CAST", x.count(8), 3);
        for (int i : new int[] {-1, 2, LEAST, MOST}) {
            x.get(0, 0, 0);
            Check.due("INDEX " + i, x.get(0, 2, i), LEAST);
            Check.due("INDEX", x.count(8), 2);
        }
        Check.due("an item", x.get(0, 2, 1), MOST);
        Check.due("the latest FINDING stays", x.count(8), 2);
    }

    private static void copy() {
        Check.sentence("Promise 25: n items of SHEET s, from i on, come to SHEET t .. from j on: 1.");
        for (int form = 0; form < 3; form++) {
            JanetCones x = new JanetCones();
            fill(x, 0, form, 1, 2, 3, 4);
            fill(x, 3, form, 5, 6, 7);
            Check.due("the last two to the first", x.copy(0, 2, 3, 0, 2), 1);
            items(x, 3, form, 3, 4, 7);
            Check.due("the first to the last", x.copy(0, 0, 3, 2, 1), 1);
            items(x, 3, form, 3, 4, 1);
            Check.due("all of it", x.copy(3, 0, 0, 1, 3), 1);
            items(x, 0, form, 1, 3, 4, 1);
            Check.due("none", x.copy(0, 0, 3, 0, 0), 1);
            Check.due("none at the ends", x.copy(0, 4, 3, 3, 0), 1);
            items(x, 3, form, 3, 4, 1);
            items(x, 0, form, 1, 3, 4, 1);
            x.sheet(1, form, 0);
            Check.due("none of none", x.copy(1, 0, 1, 0, 0), 1);
            x.sheet(1, form, 60);
            x.sheet(2, form, 60);
            x.put(1, form, 59, 9);
            Check.due("60", x.copy(1, 0, 2, 0, 60), 1);
            Check.due("the last of 60", x.get(2, form, 59), 9);
            Check.due("no FINDING", x.count(8), 0);
        }
    }

    private static void copyAsTheyWere() {
        Check.sentence("Promise 25: (perhaps s, as they were)");
        for (int form = 0; form < 3; form++) {
            JanetCones x = new JanetCones();
            fill(x, 0, form, 1, 2, 3, 4, 5);
            Check.due("one on", x.copy(0, 0, 0, 1, 4), 1);
            items(x, 0, form, 1, 1, 2, 3, 4);
            fill(x, 0, form, 1, 2, 3, 4, 5);
            Check.due("one back", x.copy(0, 1, 0, 0, 4), 1);
            items(x, 0, form, 2, 3, 4, 5, 5);
            Check.due("where they are", x.copy(0, 0, 0, 0, 5), 1);
            items(x, 0, form, 2, 3, 4, 5, 5);
        }
    }

    private static void copyBad() {
        Check.sentence("Promise 25: BAD: the SHEETS");
        JanetCones x = new JanetCones();
        x.sheet(0, 0, 1);
        for (int s : NO_SHEET) {
            Check.due("from " + s, x.copy(s, 0, 0, 0, 1), -2);
            Check.due("to " + s, x.copy(0, 0, s, 0, 1), -2);
            Check.due("from a LOST one to " + s, x.copy(1, 0, s, 0, 1), -2);
            Check.due("from " + s + " to a LOST one", x.copy(s, 0, 1, 0, 1), -2);
        }
        Check.due("no FINDING", x.count(8), 0);
    }

    private static void copyNull() {
        Check.sentence("Promise 25: NULL: s, t");
        JanetCones x = new JanetCones();
        x.sheet(0, 0, 1);
        Check.due("s", x.copy(1, 0, 0, 0, 1), -11);
        Check.due("t", x.copy(0, 0, 1, 0, 1), -11);
        Check.due("both", x.copy(1, 0, 2, 0, 1), -11);
        Check.due("s itself", x.copy(1, 0, 1, 0, 0), -11);
        Check.due("of none", x.copy(0, 0, 1, 0, 0), -11);
        Check.due("though there are no such items", x.copy(0, -1, 1, 9, 99), -11);
    }

    private static void copyStore() {
        Check.sentence("Promise 25: STORE");
        JanetCones x = new JanetCones();
        for (int form = 0; form < 3; form++) x.sheet(form, form, 2);
        for (int s = 0; s < 3; s++) {
            for (int t = 0; t < 3; t++) {
                if (s == t) continue;
                Check.due("STORE", x.copy(s, 0, t, 0, 1), -14);
                Check.due("of none", x.copy(s, 0, t, 0, 0), -14);
                Check.due("though there are no such items", x.copy(s, -1, t, 9, 99), -14);
            }
        }
    }

    private static void copyIndex() {
        Check.sentence("Promise 25: INDEX: below 0, not so many.");
        JanetCones x = new JanetCones();
        fill(x, 0, 2, 1, 2, 3, 4);
        fill(x, 1, 2, 5, 6);
        int[][] below = {{-1, 0, 1}, {0, -1, 1}, {0, 0, -1}, {-1, 0, 0}, {0, -1, 0}, {1, 1, -1}, {LEAST, 0, 1}, {0, LEAST, 1},
            {0, 0, LEAST}, {-1, -1, 1}};
        int[][] notSoMany = {{0, 0, 3}, {3, 0, 2}, {4, 0, 1}, {5, 0, 0}, {0, 1, 2}, {0, 2, 1}, {0, 3, 0}, {0, 0, MOST},
            {MOST, 0, 1}, {0, MOST, 1}, {1, 1, MOST}, {MOST, MOST, MOST}};
        for (int[] c : below) Check.due("below 0 " + Arrays.toString(c), x.copy(0, c[0], 1, c[1], c[2]), -12);
        for (int[] c : notSoMany) Check.due("not so many " + Arrays.toString(c), x.copy(0, c[0], 1, c[1], c[2]), -12);
        items(x, 1, 2, 5, 6);
        Check.due("just so many", x.copy(0, 2, 1, 0, 2), 1);
        items(x, 1, 2, 3, 4);
    }

    private static void writeAsMany() {
        Check.sentence("Promise 26: .. from item 0 on, as many as there are items, 31 at most .. how many.");
        for (int n : new int[] {0, 1, 2, 30, 31, 32, 60}) {
            JanetCones x = new JanetCones();
            x.sheet(2, 2, n);
            for (int i = 0; i < n; i++) x.put(2, 2, i, -9);
            Check.due("how many of " + n, x.write(2), Math.min(n, 31));
            for (int i = 0; i < n; i++) Check.due("item " + i, x.get(2, 2, i), i < 31 ? (i + 1) * (i + 2) / 2 : -9);
        }
        JanetCones x = Check.with("", "", "1");
        fill(x, 0, 0, 5, 5);
        Check.due("none is OUTSIDE", x.write(0), 2);
        items(x, 0, 0, 0, 0);
    }

    private static void writeLowestBits() {
        Check.sentence("Promise 26: (the lowest bits that it has)");
        JanetCones x = new JanetCones();
        for (int form = 0; form < 3; form++) {
            x.sheet(form, form, 31);
            x.write(form);
            int[] degrees = {14, 15, 21, 22, 30};
            int[] due = form == 0 ? new int[] {120, -120, -3, 20, -16} : new int[] {120, 136, 253, 276, 496};
            for (int k = 0; k < 5; k++) Check.due("DEGREE " + degrees[k], x.get(form, form, degrees[k]), due[k]);
        }
    }

    private static void writeNone() {
        Check.sentence("Promise 26: (none, where there is no BASIS)");
        JanetCones x = noBasis();
        fill(x, 0, 1, 5, 6, 7);
        Check.due("how many", x.write(0), 0);
        items(x, 0, 1, 5, 6, 7);
        Check.due("no FINDING", x.count(8), 0);
        x.wipe(1);
        Check.due("where there is one again", x.write(0), 3);
        items(x, 0, 1, 1, 2, 3);
    }

    private static void writeRefused() {
        Check.sentence("Promise 26: BAD; NULL.");
        JanetCones x = noBasis();
        for (int s : NO_SHEET) Check.due("BAD " + s, x.write(s), -2);
        Check.due("no FINDING", x.count(8), 0);
        for (int s = 0; s < 4; s++) Check.due("NULL, without a BASIS too", x.write(s), -11);
        Check.due("NULL", x.count(8), 1);
        Check.due("NULL", new JanetCones().write(0), -11);
    }

    private static void readAsMany() {
        Check.sentence("Promise 27: its items, as many as may: how many.");
        for (int form = 0; form < 3; form++) {
            for (int t = 0; t < 8; t++) {
                JanetCones x = new JanetCones();
                int most = t == 7 ? 3 : 30;
                x.sheet(0, form, 60);
                Check.due("of 60", x.read(t, 0), most);
                Check.due("a full text", x.read(t, 0), 0);
                x.undo(t);
                Check.due("room for one", x.read(t, 0), 1);
                x.wipe(t);
                x.sheet(0, form, most);
                Check.due("just so many", x.read(t, 0), most);
                x.wipe(t);
                x.sheet(0, form, 0);
                Check.due("of none", x.read(t, 0), 0);
                x.sheet(0, form, 1);
                Check.due("of one", x.read(t, 0), 1);
                Check.due("bytes", x.count(0), 1);
                Check.due("no FINDING", x.count(8), 0);
            }
        }
    }

    private static void readBehind() {
        Check.sentence("Promise 27: Bytes from a SHEET come behind a text");
        JanetCones x = Check.with("", "3x");
        fill(x, 1, 0, '2', 'y', '-', '7');
        Check.due("read", x.read(6, 1), 4);
        Check.same("3x2y-7", Check.shown(x, -1), "3x2y+24");
        items(x, 1, 0, '2', 'y', '-', '7');
        fill(x, 1, 2, 'r', 'e', 'v');
        Check.due("read", x.read(7, 1), 3);
        Check.due("rev", x.order(), 2);
    }

    private static void readNoByte() {
        Check.sentence("Promise 27: Bytes .. (an item that is not 0 to 255 is none: ../shared/tests/ReadOnlyBytes.java)");
        int[][] noBytes = {{-1, -128}, {-1, 256, -32768, 32767}, {-1, 256, LEAST, MOST}};
        for (int form = 0; form < 3; form++) {
            for (int v : noBytes[form]) {
                JanetCones x = new JanetCones();
                fill(x, 0, form, 'x', 'y', v, 'z');
                Check.due("those ahead of " + v, x.read(2, 0), 2);
                Check.due("xy", x.term(2, 0, 1), 1056);
                fill(x, 0, form, v);
                Check.due("none", x.read(2, 0), 0);
            }
        }
        JanetCones x = new JanetCones();
        fill(x, 0, 1, 0, 255, 128, 127);
        Check.due("all", x.read(2, 0), 4);
    }

    private static void readRefused() {
        Check.sentence("Promise 27: BAD; NULL.");
        JanetCones x = new JanetCones();
        for (int t : new int[] {-1, 8, LEAST, MOST}) Check.due("text " + t, x.read(t, 0), -2);
        for (int s : NO_SHEET) Check.due("SHEET " + s, x.read(0, s), -2);
        Check.due("no FINDING", x.count(8), 0);
        for (int s = 0; s < 4; s++) Check.due("NULL", x.read(7, s), -11);
        Check.many(x, 0, 'x', 30);
        Check.due("NULL, to a full text too", x.read(0, 0), -11);
        Check.due("NULL", x.count(8), 1);
    }

    private static void counts() {
        Check.sentence("Promise 28: 0 bytes of all texts, 1 GENERATORS that are not ZERO, 2 TERMS of THE ONE, 3 WHY, 4 STEPS, "
            + "5 how many are in THE BASIS, 6 the ORDER");
        JanetCones x = new JanetCones();
        int[] fresh = {0, 0, 0, 0, 0, 0, 1, 286, 0};
        for (int w = 0; w < 9; w++) Check.due("of a new one " + w, x.count(w), fresh[w]);
        for (int t = 0; t < 8; t++) Check.many(x, t, 'x', 30);
        int[] full = {213, 0, 0, 0, 0, 0, 1, 286, 0};
        for (int w = 0; w < 9; w++) Check.due("of a full one " + w, x.count(w), full[w]);
        x = Check.with("rev", "x+y+z+xy+xz+yz+x2+y2+z2+1", "x", "y", "z", "x", "y", "z");
        // a STEP for each GENERATOR, and for z times y and x, y times x
        int[] all = {34, 6, 10, 0, 9, 3, 2, 1, 0};
        for (int w = 0; w < 9; w++) Check.due("of all " + w, x.count(w), all[w]);
        int[] none = {10, 2, 1, 2, 2, 0, 0, -1, 0};
        for (int w = 0; w < 9; w++) Check.due("without a BASIS " + w, noBasis().count(w), none[w]);
    }

    private static void countUpToTen() {
        Check.sentence("Promise 28: 7 how many PRODUCTS of DEGREES up to 10 are OUTSIDE (NONE)");
        Check.due("z9", Check.with("", "", "x", "y", "z9").count(7), 9);
        Check.due("z10", Check.with("", "", "x", "y", "z9z").count(7), 10);
        Check.due("z11", Check.with("", "", "x", "y", "z9z2").count(7), 11);
        Check.due("z12", Check.with("", "", "x", "y", "z9z3").count(7), 11);
        Check.due("1", Check.with("", "", "1").count(7), 0);
        Check.due("no BASIS", noBasis().count(7), -1);
    }

    private static void countLatest() {
        Check.sentence("Promise 28: 8 the number of the latest FINDING (0 before any)");
        JanetCones x = new JanetCones();
        Check.due("before any", x.count(8), 0);
        x.type(9, 9);
        x.undo(0);
        x.count(9);
        x.lose(4);
        x.get(4, 0, 0);
        Check.many(x, 7, 'x', 4);
        Check.due("BAD, NOT, FULL are none", x.count(8), 0);
        x.sheet(0, 0, -1);
        Check.due("SIZE", x.count(8), 5);
        x.lose(0);
        Check.due("NULL", x.count(8), 1);
        x.sheet(0, 0, 2);
        x.sheet(1, 1, 2);
        x.copy(0, 0, 1, 0, 1);
        Check.due("STORE", x.count(8), 4);
        x.get(0, 0, 2);
        Check.due("INDEX", x.count(8), 2);
        x.put(0, 2, 0, 0);
        Check.due("CAST", x.count(8), 3);
        x.put(0, 0, 0, 1);
        x.lose(0);
        x.wipe(0);
        Check.due("it stays", x.count(8), 3);
        Check.due("of another object", new JanetCones().count(8), 0);
    }

    private static void countBad() {
        Check.sentence("Promise 28: BAD.");
        for (int w : new int[] {-1, 9, LEAST, MOST}) {
            Check.due("count " + w, new JanetCones().count(w), -2);
            Check.due("count " + w, noBasis().count(w), -2);
        }
    }

    private static void digestOfAll() {
        Check.sentence("Promise 29: h is 17; h becomes 31 h and each of");
        JanetCones[] all = {new JanetCones(), noBasis(), some(), Check.with("", "", "1"), Check.with("deg", "x", "z", "y9x9x5"),
            Check.with("lex", "x6+y7+z7", "x-y-z-1"), Check.with("lex", "y4", "y-z9z"),
            Check.with("lex", "xyz", "x3+y3x3z4", "y2-z3y4+3z4-1+y3x2"), Check.with("deg", "", "z9z2", "z2x8-z")};
        for (JanetCones x : all) {
            Check.due("digest", x.digest(), CountTest.digest(x));
            int latest = x.count(8);
            long before = x.digest();
            x.sheet(0, 0, -1);
            Check.due("count 8 has no part in it", x.digest(), before);
            Check.due("nor it in count 8", latest, 0);
        }
    }

    private static void digestOfCones() {
        Check.sentence("Promise 29: of PRODUCTS 0, 37, 1024, 2113, 5218 cone()");
        for (String letter : new String[] {"x", "y", "z"}) {
            for (int e = 1; e <= 9; e++) {
                JanetCones x = Check.with("", "", letter + (e > 1 ? e : ""));
                Check.due("digest", x.digest(), CountTest.digest(x));
            }
        }
    }

    private static void digestWraps() {
        Check.sentence("Promise 29: as longs that wrap.");
        List<Integer> all = new ArrayList<>(List.of(0, 0, 0, 0, 0, 0, 1, 286));
        for (int i = 0; i < 8 + 70; i++) all.add(-1);
        for (int i = 0; i < 24; i++) all.addAll(List.of(0, -1, -1, -1, -1, -1, -1, -1, -1, -1, 0, -1));
        for (int d = 0; d <= 12; d++) all.addAll(List.of((d + 1) * (d + 2) / 2, (d + 1) * (d + 2) * (d + 3) / 6));
        for (int i = 0; i < 10; i++) all.addAll(List.of(-1, -1, i == 0 ? (int) '0' : -1));
        all.addAll(List.of(1, 63, 0, 0, 0, 84, 0, 0, 0, 84, 0, 0, 0, 84, -1, -1, -1, -1, -1));
        BigInteger h = BigInteger.valueOf(17);
        for (int v : all) h = h.multiply(BigInteger.valueOf(31)).add(BigInteger.valueOf(v));
        Check.due("of a new one", new JanetCones().digest(), h.longValue());
    }
}
