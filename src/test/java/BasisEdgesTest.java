/** Each sentence that names an edge, of GOOD letters, CONES and COMPLETING in "Terms" and of promises 9 to 15, by itself. */
public final class BasisEdgesTest {
    private static final int LEAST = Integer.MIN_VALUE;
    private static final int MOST = Integer.MAX_VALUE;
    private static final String[] ORDERS = {"lex", "deg", "rev"};

    public static void main(String[] args) {
        goodLetters();
        zIsAlwaysGood();
        conesOfGoodLettersAlone();
        theOneAheadOfTheOthersGoes();
        nothingOnThePile();
        monicByNumbers();
        theLowestIsTaken();
        ofLikeOnesTheFirst();
        zeroComesToNothing();
        multiplesComeBack();
        notGoodLettersAreSent();
        sentOnce();
        sentAgain();
        pileIsEmpty();
        longSteps();
        wideByTerms();
        wideByExponents();
        wideByWhatIsTakenAway();
        wideByALetter();
        manyInTheBasis();
        manyOnThePile();
        toldAtOnce();
        nothingOfItIsTold();
        whyTold();
        whyBad();
        basisTold();
        basisBad();
        size();
        good();
        cone();
        coneBad();
        outside();
        outsideNone();
        outsideBad();
        within();
        withinBadAndNone();
        Check.end();
    }

    /** WHY, STEPS and how many, which the Model must tell as well. */
    private static JanetCones why(String order, int why, int steps, int size, String... generators) {
        String set = order + " " + String.join(", ", generators) + ": ";
        Model m = new Model();
        m.texts[7] = order;
        for (int g = 0; g < generators.length; g++) m.texts[g] = generators[g];
        m.complete(m.order(), -1);
        Check.due(set + "WHY of the Model", m.why, why);
        Check.due(set + "STEPS of the Model", m.steps, steps);
        Check.due(set + "how many of the Model", m.basis.size(), size);
        JanetCones x = Check.with(order, "", generators);
        Check.due(set + "WHY", x.why(0), why);
        Check.due(set + "STEPS", x.why(1), steps);
        Check.due(set + "how many", x.why(2), size);
        return x;
    }

    private static void basis(JanetCones x, String... shown) {
        Check.due("how many", x.why(2), shown.length);
        for (int i = 0; i < shown.length; i++) Check.same("the one " + i, Check.shown(x, i), shown[i]);
    }

    // ---- terms

    private static void goodLetters() {
        Check.sentence("x is a GOOD letter of one, if no other HEAD has a greater EXPONENT of x; y, if none with a like "
            + "EXPONENT of x has a greater one of y");
        // heads x2y, x2z: like ones of x, so x is GOOD of both; y of x2y alone
        JanetCones x = Check.with("deg", "", "x2y", "x2z");
        basis(x, "x2z", "x2y");
        Check.due("x2z", x.good(0), 5);
        Check.due("x2y", x.good(1), 7);
        // y3z has the greatest EXPONENT of y, but y2 of another one of x
        x = Check.with("deg", "", "xy2", "y3z");
        basis(x, "xy2", "y3z");
        Check.due("xy2", x.good(0), 7);
        Check.due("y3z", x.good(1), 6);
        x = Check.with("deg", "", "x", "y", "z");
        basis(x, "z", "y", "x");
        Check.due("z", x.good(0), 4);
        Check.due("y", x.good(1), 6);
        Check.due("x", x.good(2), 7);
        Check.due("of one alone all are", Check.with("", "", "x2y").good(0), 7);
    }

    private static void zIsAlwaysGood() {
        Check.sentence("z, if none with like ones of x and y has a greater one of z");
        String[][] sets = {{"z3", "z2"}, {"z2", "z3"}, {"xz3-1", "xz2"}, {"xyz-1", "xyz2-z", "xyz4"}, {"x", "y", "z"}};
        for (String[] set : sets) {
            for (String order : ORDERS) {
                JanetCones x = Check.with(order, "", set);
                Check.due("WHY", x.why(0), 0);
                for (int i = 0; i < x.why(2); i++) Check.yes("z is GOOD", (x.good(i) & 4) != 0);
            }
        }
    }

    private static void conesOfGoodLettersAlone() {
        Check.sentence("The CONE of one is all PRODUCTS that are its HEAD times any PRODUCT of GOOD letters alone.");
        JanetCones x = Check.with("deg", "", "x2y", "x2z");
        Check.due("the HEAD itself", x.cone(Check.product(2, 0, 1)), 0);
        Check.due("the HEAD itself", x.cone(Check.product(2, 1, 0)), 1);
        Check.due("times z30", x.cone(Check.product(2, 0, 31)), 0);
        Check.due("times x29z30", x.cone(Check.product(31, 0, 31)), 0);
        Check.due("x2z times y is of the other one", x.cone(Check.product(2, 1, 1)), 1);
        Check.due("less than the HEAD of z", x.cone(Check.product(31, 0, 0)), -1);
        Check.due("less than the HEAD of x", x.cone(Check.product(1, 31, 31)), -1);
        Check.due("the last PRODUCT", x.cone(32767), 1);
    }

    private static void theOneAheadOfTheOthersGoes() {
        Check.sentence("as long as any of its PRODUCTS is in a CONE, the one of these that is AHEAD of the others goes");
        // all of x go ahead of any y2 or z2, so that of x7 36 TERMS would come, though lastly there were 4
        String[] set = {"x-y-z-1", "y2", "z2"};
        Check.same("x6", Check.shown(Check.with("lex", "x6", set), -1), "30yz+6y+6z+1");
        Check.due("x7", Check.with("lex", "x7", set).made(), -1);
        Check.same("none in a CONE", Check.shown(Check.with("lex", "yz+3", set), -1), "yz+3");
        Check.same("not the HEAD alone", Check.shown(Check.with("lex", "yz+y2+3z3", set), -1), "yz");
    }

    private static void nothingOnThePile() {
        Check.sentence("THE PILE is all GENERATORS that are not ZERO .. THE BASIS is empty.");
        why("lex", 0, 0, 0);
        why("deg", 0, 0, 0, "", "x-x", "x+", "0", "y9y7", "+");
        why("deg", 0, 1, 1, "", "", "", "", "", "y");
        why("rev", 0, 6, 1, "1", "2", "3", "4", "5", "6");
        why("lex", 0, 1, 1, "", "x-x", "z2-3");
    }

    private static void monicByNumbers() {
        Check.sentence("THE PILE is all GENERATORS that are not ZERO, MONIC, by numbers");
        basis(Check.with("lex", "", "3x+6"), "x+2");
        basis(Check.with("lex", "", "-x+6"), "x+25");
        // of like HEADS the less number is first
        basis(Check.with("lex", "", "2x-2y", "3x-3"), "x+30y", "y+30");
        basis(Check.with("lex", "", "3x-3", "2x-2y"), "x+30", "y+30");
    }

    private static void theLowestIsTaken() {
        Check.sentence("a STEP takes off that one ahead of whose HEAD all others' are");
        basis(Check.with("lex", "", "x", "y", "z2"), "z2", "y", "x");
        basis(Check.with("deg", "", "z2", "y", "x"), "y", "x", "z2");
        basis(Check.with("rev", "", "y2", "xz"), "xz", "y2", "xy2", "xyz");
        basis(Check.with("deg", "", "xz", "y2"), "y2", "xz", "xy2", "xyz");
    }

    private static void ofLikeOnesTheFirst() {
        Check.sentence("or that are like, of like ones the one that came there first");
        basis(why("lex", 0, 3, 2, "x+y", "x-1"), "x+y", "y+1");
        basis(why("lex", 0, 3, 2, "x-1", "x+y"), "x+30", "y+1");
        basis(why("lex", 0, 4, 3, "xy-z", "", "", "xy-1"), "xy+30z", "z+30", "xz+30x");
        basis(why("lex", 0, 4, 3, "xy-1", "", "", "xy-z"), "xy+30", "z+30", "xz+30x");
    }

    private static void zeroComesToNothing() {
        Check.sentence("Its NORMAL FORM by THE BASIS is taken; if that is not ZERO, it is made MONIC");
        basis(why("deg", 0, 2, 1, "x", "3x"), "x");
        basis(why("deg", 0, 3, 1, "x", "xy", "x2-xz"), "x");
        basis(why("lex", 0, 3, 2, "x+y", "x-2y+4"), "x+y", "y+9");
    }

    private static void multiplesComeBack() {
        Check.sentence("all of THE BASIS whose HEAD is another multiple of its HEAD come to THE PILE, behind all others, in "
            + "their order; it comes to THE BASIS, behind all others");
        basis(why("lex", 0, 4, 2, "xy-1", "y2-1"), "y2+30", "x+30y");
        // y2 times x becomes y, by which y2 and xy-1 go back; xy-1 comes again, by which xy, of y, becomes 1
        basis(why("deg", 0, 12, 1, "xy-1", "x2", "y2"), "1");
        // y5 is taken ahead of y5-4, which came back behind it
        basis(why("lex", 0, 6, 1, "y5-4", "y5+5y3", "y5"), "1");
        // one like the HEAD is no other multiple: x-1 stays where x+y is taken, which becomes y+1
        basis(why("lex", 0, 3, 2, "x-1", "x+y"), "x+30", "y+1");
    }

    private static void notGoodLettersAreSent() {
        Check.sentence("Then of each of THE BASIS, in their order, times x, y, z that are not GOOD letters of it come to "
            + "THE PILE");
        // z times x and y, y times x: three STEPS more
        basis(why("deg", 0, 6, 3, "x", "y", "z"), "z", "y", "x");
        basis(why("deg", 0, 4, 3, "x2", "y2"), "y2", "x2", "xy2");
        // yz+z2 times y comes behind y2z+z, which came back in the same STEP
        basis(why("lex", 0, 7, 4, "z+y5", "z-y3"), "y3+30z", "yz+z2", "y2z+z", "z3+z");
        why("lex", 2, 6, 0, "y7+y9y2", "y3+z5");
        // times x, again and again
        why("deg", 0, 5, 4, "y2", "x3");
        why("deg", 0, 17, 16, "y2", "x9x6");
    }

    private static void sentOnce() {
        Check.sentence("but those that did so already, since when it came to THE BASIS");
        // y is sent times x when x3 comes, not again when xy, x2y come
        why("deg", 0, 5, 4, "y", "x3");
        basis(why("deg", 0, 9, 5, "z", "y", "x2"), "z", "y", "x2", "xz", "xy");
        // xy-y goes back by y, and comes again as xy, which is sent times x once more
        basis(why("lex", 0, 6, 3, "x2", "yx-y"), "x2", "y", "xy");
        why("lex", 0, 9, 4, "xz", "x3+8");
        why("deg", 0, 25, 24, "z", "y9x9x5");
    }

    private static void sentAgain() {
        Check.sentence("without that letter having been GOOD in between (looked at in each STEP that changes THE BASIS)");
        // x z-1 is sent times y when xy comes; xy goes back by y, y is GOOD, xy comes again: sent again
        basis(why("lex", 0, 6, 3, "xz-1", "xy"), "xz+30", "y", "xy");
        why("lex", 0, 120, 6, "z3", "x2y2-3y", "y3-z");
        why("rev", 0, 120, 5, "z3-yx", "x3z-x", "zy3");
    }

    private static void pileIsEmpty() {
        Check.sentence("WHY: 0 THE PILE is empty");
        why("lex", 0, 0, 0);
        why("deg", 0, 119, 1, "yz+6", "x5", "z6-x");
        why("rev", 0, 119, 23, "x4z4+9y-y5x", "x5z4");
    }

    private static void longSteps() {
        Check.sentence("1 LONG: 120 STEPS are taken, and there is anything on it");
        // 120 STEPS, and nothing is left
        why("lex", 0, 120, 1, "zy8-5", "z9z2", "y6+y5");
        why("lex", 0, 120, 6, "z3", "x2y2-3y", "y3-z");
        why("rev", 0, 120, 5, "z3-yx", "x3z-x", "zy3");
        why("deg", 0, 120, 1, "x9y9z9z2", "yz4x7+7");
        // 120 STEPS, and just one is left
        why("lex", 1, 120, 0, "z9", "x9x3z-x5");
        why("lex", 1, 120, 0, "y4-zy9", "z9z4");
        why("rev", 1, 120, 0, "zy8x+z3+6y", "z9");
        // and many are
        why("deg", 1, 120, 0, "z9z2", "z2x8-z");
        why("rev", 1, 120, 0, "x4z", "y5x+6");
        why("deg", 1, 120, 0, "y5x8", "xz4-3");
    }

    private static void wideByTerms() {
        Check.sentence("2 WIDE: a POLYNOMIAL, on its way to its NORMAL FORM too, would have more than 30 TERMS");
        // 30 on the way
        why("lex", 0, 3, 2, "x3y2+x3", "z2+z-x+y3");
        // 30 in THE BASIS
        JanetCones x = why("lex", 0, 11, 6, "x3+y3x3z4", "y2-z3y4+3z4-1+y3x2");
        Check.due("TERMS", x.size(4), 30);
        // 31 on the way
        why("lex", 2, 3, 0, "x6", "y2+x-9z2-3");
        why("lex", 2, 7, 0, "x4+z-4", "yx2+x3-2");
        why("rev", 2, 4, 0, "y2+7+6x+z2", "y8");
    }

    private static void wideByExponents() {
        Check.sentence("or it .. an EXPONENT above 31");
        JanetCones x = why("lex", 0, 4, 3, "z7-y2", "z3y7");
        Check.due("z31", x.basis(2, 0, 1), 31);
        why("lex", 2, 3, 0, "z7-y2", "z4y7");
        x = why("lex", 0, 5, 4, "x7y", "y9yz7+x3");
        Check.due("y31z21", x.basis(3, 0, 1), Check.product(0, 31, 21));
        why("lex", 2, 4, 0, "x7y2", "y9yz7+x3");
        // x31 comes to THE BASIS, which then becomes MANY; x32 does not
        why("deg", 3, 35, 0, "y5-x4", "z5-x4", "x7y9y6z9z6");
        why("deg", 2, 8, 0, "y5-x4", "z5-x4", "x8y9y6z9z6");
    }

    private static void wideByWhatIsTakenAway() {
        Check.sentence("or what is taken away from it, an EXPONENT above 31");
        // z31 is taken away, and z32
        basis(why("lex", 0, 3, 2, "x-y2z", "y-z9z"), "y+30z10", "x+30z21");
        why("lex", 2, 3, 0, "x-y2z2", "y-z9z");
        why("lex", 2, 2, 0, "x-y4", "x8");
        why("lex", 2, 2, 0, "y-z4", "y8");
    }

    private static void wideByALetter() {
        Check.sentence("2 WIDE: a POLYNOMIAL .. would have .. or it .. an EXPONENT above 31 (here by a letter that is not GOOD)");
        why("lex", 2, 22, 0, "x4+y7", "z+x5");
        why("lex", 2, 7, 0, "x5-z", "x8y9y+x9");
        why("lex", 2, 9, 0, "zx9-z7", "y9+x4");
    }

    private static void manyInTheBasis() {
        Check.sentence("3 MANY: THE BASIS would have more than 24");
        JanetCones x = why("deg", 0, 25, 24, "z", "y9x9x5");
        Check.due("the last one", x.size(23), 1);
        why("deg", 3, 25, 0, "z", "y9x9x6");
        // one that comes where there are 24 already, but for another one that goes
        why("rev", 0, 41, 24, "z3-z5", "z3y5-x3");
        why("lex", 0, 46, 21, "y3x4", "z", "y4+9");
        why("rev", 0, 41, 24, "z7-z", "z4y7-x2");
    }

    private static void manyOnThePile() {
        Check.sentence("3 MANY: .. or THE PILE more than 100");
        // just 100, by letters that are not GOOD and by multiples that come back
        why("rev", 1, 120, 0, "x6", "z2-y3+z6x6", "y2-y5zx+3x3y7+y5x2");
        why("deg", 1, 120, 0, "x3+9x4y4+6y2x", "y6+z4y6", "z2y6+4", "z3+x3z2-4y6+z4");
        // 101, by multiples that come back and by letters that are not GOOD
        why("lex", 3, 68, 0, "xz6-z", "x9xy8");
        why("rev", 3, 67, 0, "x4-x2-y3z3", "y2-x4", "x2-z4-3", "z2+y4x3");
        why("rev", 3, 86, 0, "y4z-9", "xy6-x6-8y6-8z8", "z6-x6", "z8-z3x8");
        why("lex", 3, 66, 0, "z5x-5", "x9y9y2");
        why("lex", 3, 67, 0, "x+9z8x3", "x9xz7y9y5");
    }

    private static void toldAtOnce() {
        Check.sentence("(It is told so at once");
        // WIDE in the STEP in which x8 is taken, though x and y9 would come
        why("lex", 2, 2, 0, "x-y4", "x8", "x9y9");
        why("lex", 2, 3, 0, "x6", "y2+x-9z2-3");
        why("deg", 3, 25, 0, "z", "y9x9x6", "x9x6y9y6");
    }

    private static void nothingOfItIsTold() {
        Check.sentence("where there is no BASIS, nothing of it is told.)");
        String[][] sets = {{"deg", "z9z2", "z2x8-z"}, {"lex", "x-y4", "x8"}, {"deg", "z", "y9x9x6"}, {"lex", "xz6-z", "x9xy8"}};
        int[] why = {1, 2, 3, 3};
        for (int k = 0; k < 4; k++) {
            JanetCones x = Check.with(sets[k][0], "", sets[k][1], sets[k][2]);
            Check.due("WHY", x.why(0), why[k]);
            Check.due("how many", x.why(2), 0);
            for (int i = 0; i < 24; i++) {
                Check.due("size", x.size(i), 0);
                Check.due("good", x.good(i), -1);
                Check.due("basis", x.basis(i, 0, 0), -1);
                Check.due("basis", x.basis(i, 0, 1), -1);
                Check.due("shown", x.shown(i, -1), 0);
                Check.due("shown", x.shown(i, 0), -1);
            }
            for (int p : new int[] {0, 1, 32, 1024, 32767}) Check.due("cone", x.cone(p), -1);
            Check.due("form", x.form(0, 0), -1);
            Check.due("made", x.made(), -1);
            Check.due("NORMAL FORM shown", x.shown(-1, -1), 0);
            Check.due("count 5", x.count(5), 0);
            Check.due("count 7", x.count(7), -1);
            Check.due("by 2", x.by(x.order(), 2), 0);
            Check.due("by 3", x.by(x.order(), 3), -1);
        }
    }

    // ---- promises

    private static void whyTold() {
        Check.sentence("Promise 9: WHY (what = 0), how many STEPS (1), how many are in THE BASIS (2; 0).");
        JanetCones x = Check.with("deg", "", "x2", "y2");
        int[] due = {0, 4, 3};
        for (int w = 0; w < 3; w++) Check.due("why " + w, x.why(w), due[w]);
        x = Check.with("lex", "", "x-y4", "x8");
        int[] none = {2, 2, 0};
        for (int w = 0; w < 3; w++) Check.due("why " + w + " without", x.why(w), none[w]);
        for (int w = 0; w < 3; w++) Check.due("why " + w + " of a new one", new JanetCones().why(w), 0);
    }

    private static void whyBad() {
        Check.sentence("Promise 9: BAD.");
        for (int w : new int[] {-1, 3, LEAST, MOST}) {
            Check.due("why " + w, new JanetCones().why(w), -2);
            Check.due("why " + w, Check.with("lex", "", "x-y4", "x8").why(w), -2);
        }
    }

    private static void basisTold() {
        Check.sentence("Promise 10: Of the i-th of THE BASIS (0 to 23) the j-th TERM (0 to 29) .. NONE.");
        JanetCones x = Check.with("deg", "", "z", "y9x9x5");
        Check.due("the first", x.basis(0, 0, 1), 1);
        Check.due("the 23rd", x.basis(23, 0, 0), 1);
        Check.due("the 23rd is in its own CONE", x.cone(x.basis(23, 0, 1)), 23);
        Check.due("behind its last TERM", x.basis(23, 1, 0), -1);
        Check.due("its 29th TERM", x.basis(23, 29, 1), -1);
        x = Check.with("lex", "", "x3+y3x3z4", "y2-z3y4+3z4-1+y3x2");
        Check.due("of 30 TERMS the 29th", x.basis(4, 29, 0), 7);
        Check.due("of 30 TERMS the 29th", x.basis(4, 29, 1), 4);
        Check.due("of 30 TERMS the 28th", x.basis(4, 28, 0), 30);
        Check.due("of 30 TERMS the 28th", x.basis(4, 28, 1), 8);
        Check.due("the fifth is the last", x.basis(5, 0, 0), 1);
        Check.due("no sixth", x.basis(6, 0, 0), -1);
        Check.due("no 23rd", x.basis(23, 29, 1), -1);
        Check.due("of none", new JanetCones().basis(0, 0, 0), -1);
    }

    private static void basisBad() {
        Check.sentence("Promise 10: BAD.");
        for (JanetCones x : new JanetCones[] {new JanetCones(), Check.with("", "", "x"), Check.with("lex", "", "x-y4", "x8")}) {
            for (int i : new int[] {-1, 24, LEAST, MOST}) Check.due("i " + i, x.basis(i, 0, 0), -2);
            for (int j : new int[] {-1, 30, LEAST, MOST}) Check.due("j " + j, x.basis(0, j, 0), -2);
            for (int w : new int[] {-1, 2, LEAST, MOST}) Check.due("what " + w, x.basis(0, 0, w), -2);
            Check.due("where there is no such one, too", x.basis(23, 30, 0), -2);
        }
    }

    private static void size() {
        Check.sentence("Promise 11: How many TERMS the i-th has (0: there is no such one). BAD.");
        JanetCones x = Check.with("lex", "", "x3+y3x3z4", "y2-z3y4+3z4-1+y3x2");
        int[] due = {5, 8, 17, 19, 30, 20};
        for (int i = 0; i < 24; i++) Check.due("size " + i, x.size(i), i < 6 ? due[i] : 0);
        x = Check.with("deg", "", "z", "y9x9x5");
        for (int i = 0; i < 24; i++) Check.due("size " + i, x.size(i), 1);
        for (int i : new int[] {-1, 24, LEAST, MOST}) Check.due("BAD " + i, x.size(i), -2);
        for (int i : new int[] {-1, 24, LEAST, MOST}) Check.due("BAD " + i, new JanetCones().size(i), -2);
    }

    private static void good() {
        Check.sentence("Promise 12: GOOD letters of the i-th, as bits (1 x, 2 y, 4 z); NONE: there is no such one. BAD.");
        JanetCones x = Check.with("deg", "", "x2y", "x2z");
        int[] due = {5, 7};
        for (int i = 0; i < 24; i++) Check.due("good " + i, x.good(i), i < 2 ? due[i] : -1);
        // z, x14y9, xz .. x13z, x14z, x14yz .. x14y8z
        x = Check.with("deg", "", "z", "y9x9x5");
        for (int i = 0; i < 24; i++) Check.due("good " + i, x.good(i), i == 1 ? 7 : i < 15 ? 6 : 5);
        for (int i : new int[] {-1, 24, LEAST, MOST}) Check.due("BAD " + i, x.good(i), -2);
        for (int i : new int[] {-1, 24, LEAST, MOST}) Check.due("BAD " + i, new JanetCones().good(i), -2);
    }

    private static void cone() {
        Check.sentence("Promise 13: Whose CONE a PRODUCT is in; NONE.");
        JanetCones x = Check.with("deg", "", "x2", "y2");
        Check.due("1", x.cone(0), -1);
        Check.due("xyz31", x.cone(Check.product(1, 1, 31)), -1);
        Check.due("y2", x.cone(64), 0);
        Check.due("x2", x.cone(2048), 1);
        Check.due("xy2", x.cone(1088), 2);
        Check.due("the last PRODUCT", x.cone(32767), 1);
        Check.due("by 1 all are", Check.with("", "", "5").cone(0), 0);
        Check.due("by 1 all are", Check.with("", "", "5").cone(32767), 0);
        Check.due("by none none is", new JanetCones().cone(0), -1);
        Check.due("by none none is", new JanetCones().cone(32767), -1);
    }

    private static void coneBad() {
        Check.sentence("Promise 13: BAD.");
        for (int p : new int[] {-1, 32768, LEAST, MOST}) {
            Check.due("cone " + p, new JanetCones().cone(p), -2);
            Check.due("cone " + p, Check.with("", "", "5").cone(p), -2);
            Check.due("cone " + p, Check.with("lex", "", "x-y4", "x8").cone(p), -2);
        }
    }

    private static void outside() {
        Check.sentence("Promise 14: How many PRODUCTS of a DEGREE (0 to 30) are OUTSIDE");
        JanetCones x = new JanetCones();
        for (int d = 0; d <= 30; d++) Check.due("all " + d, x.outside(d), (d + 1) * (d + 2) / 2);
        x = Check.with("", "", "7");
        for (int d = 0; d <= 30; d++) Check.due("none " + d, x.outside(d), 0);
        x = Check.with("deg", "", "x9x6y9y6");
        for (int d = 0; d <= 30; d++) Check.due("one at last " + d, x.outside(d), (d + 1) * (d + 2) / 2 - (d == 30 ? 1 : 0));
        // z31 is of a DEGREE that cannot be asked
        x = Check.with("lex", "", "x", "y", "z9");
        for (int d = 0; d <= 30; d++) Check.due("z to 8 " + d, x.outside(d), d < 9 ? 1 : 0);
    }

    private static void outsideNone() {
        Check.sentence("Promise 14: NONE: there is no BASIS.");
        JanetCones x = Check.with("lex", "", "x-y4", "x8");
        for (int d = 0; d <= 30; d++) Check.due("outside " + d, x.outside(d), -1);
        Check.due("an empty one is one", Check.with("lex", "", "x+", "").outside(0), 1);
    }

    private static void outsideBad() {
        Check.sentence("Promise 14: BAD.");
        for (int d : new int[] {-1, 31, LEAST, MOST}) {
            Check.due("outside " + d, new JanetCones().outside(d), -2);
            Check.due("outside " + d + " without a BASIS", Check.with("lex", "", "x-y4", "x8").outside(d), -2);
        }
    }

    private static void within() {
        Check.sentence("Promise 15: How many of all DEGREES up to that.");
        JanetCones x = new JanetCones();
        for (int d = 0; d <= 30; d++) Check.due("all " + d, x.within(d), (d + 1) * (d + 2) * (d + 3) / 6);
        x = Check.with("deg", "", "x9x6y9y6");
        Check.due("up to 29", x.within(29), 4960);
        Check.due("up to 30, one less", x.within(30), 5455);
        x = Check.with("deg", "", "x2", "y2");
        for (int d = 0; d <= 30; d++) Check.due("up to " + d, x.within(d), 4 * d + (d == 0 ? 1 : 0));
    }

    private static void withinBadAndNone() {
        Check.sentence("Promise 15: BAD; NONE.");
        JanetCones none = Check.with("lex", "", "x-y4", "x8");
        for (int d = 0; d <= 30; d++) Check.due("within " + d, none.within(d), -1);
        for (int d : new int[] {-1, 31, LEAST, MOST}) {
            Check.due("within " + d, new JanetCones().within(d), -2);
            Check.due("within " + d + " without a BASIS", none.within(d), -2);
        }
    }
}
