/** The edges that promises 20 to 26 and the terms of who he is and of rules name, a case each. */
public final class WhoEdgesTest {
    private static final int BAD = -1, FULL = -3, NONE = -4;
    private static final String PLAIN = "k0,0,0,0,1;";
    private static final int[] FAR = {Integer.MIN_VALUE, Integer.MAX_VALUE, -100, 100};
    private static final Check CHECK = new Check();

    public static void main(String[] args) {
        CHECK.each(
            WhoEdgesTest::seenEight, WhoEdgesTest::seenAtTheEndsOfTheRow, WhoEdgesTest::seenWithoutRow,
            WhoEdgesTest::seenDoings, WhoEdgesTest::seenOutside, WhoEdgesTest::seenTwice,
            WhoEdgesTest::forgetNoneAndAll, WhoEdgesTest::fitsWithNothingSeen, WhoEdgesTest::fitsNone,
            WhoEdgesTest::fitsOneSortAlone, WhoEdgesTest::fitsFromTheBeginning, WhoEdgesTest::fitsAsLaid,
            WhoEdgesTest::fitsFirstAsTold, WhoEdgesTest::firstsAllAndNone, WhoEdgesTest::firstsOneAlone,
            WhoEdgesTest::firstsBySort, WhoEdgesTest::firstsOutside, WhoEdgesTest::askNone, WhoEdgesTest::askAll,
            WhoEdgesTest::askOne, WhoEdgesTest::askLowest, WhoEdgesTest::askAtTheWorst, WhoEdgesTest::askNow,
            WhoEdgesTest::askOutside, WhoEdgesTest::ruleOfNoMarks, WhoEdgesTest::ruleOfAllMarks,
            WhoEdgesTest::ruleNone, WhoEdgesTest::ruleOfFewestMarks, WhoEdgesTest::ruleLowest,
            WhoEdgesTest::ruleOfADoingThatNoneHas, WhoEdgesTest::ruleOutside, WhoEdgesTest::generalFirst,
            WhoEdgesTest::generalNone, WhoEdgesTest::narrowFirst, WhoEdgesTest::narrowNone,
            WhoEdgesTest::wrongOfNoMarksAndOfAll, WhoEdgesTest::wrongOutside);
        CHECK.end();
    }

    private static void seenEight() {
        CHECK.about("20: SEEN (8 at most): FULL");
        AsWithTheLast x = new AsWithTheLast();
        for (int n = 1; n <= 8; n++) {
            CHECK.due("seen(0, 0)", x.seen(n % 2, 0), n);
        }
        CHECK.due("seen(0, 0)", x.seen(0, 0), FULL);
        CHECK.due("seen(1, 5)", x.seen(1, 5), FULL);
        CHECK.due("count(8)", x.count(8), 8);
        CHECK.due("fits(), the ninth was not taken", x.fits(), 15);
        x.forget();
        CHECK.due("seen(1, 5), with room again", x.seen(1, 5), 1);
        AsWithTheLast y = new AsWithTheLast();
        for (int n = 1; n <= 7; n++) {
            y.seen(0, 0);
        }
        CHECK.due("seen(0, 1), the eighth", y.seen(0, 1), 8);
        CHECK.due("fits(), the eighth was taken", y.fits(), 0);
    }

    private static void seenAtTheEndsOfTheRow() {
        CHECK.about("20: the k-th, the first and the last of ten");
        AsWithTheLast x = Texts.laid("k0,1,0,0,1;k0,2,0,0,1;f5;" + Texts.times(8, "e0;") + "e1;e0;");
        CHECK.due("seen(0, 5)", x.seen(0, 5), 1);
        CHECK.due("seen(9, 2)", x.seen(9, 2), 2);
        CHECK.due("fits()", x.fits() & 1, 1);
        CHECK.due("seen(10, 2)", x.seen(10, 2), BAD);
        CHECK.due("seen(9, 1)", x.seen(9, 1), 3);
        CHECK.due("fits(), not so", x.fits(), 0);
    }

    private static void seenWithoutRow() {
        CHECK.about("20: places such as there are, THE ROW being empty");
        AsWithTheLast x = Texts.laid(PLAIN);
        CHECK.due("seen(0, 0)", x.seen(0, 0), BAD);
        CHECK.due("seen(-1, 0)", x.seen(-1, 0), BAD);
        x.tell(0);
        CHECK.due("seen(0, 0)", x.seen(0, 0), 1);
        CHECK.due("seen(1, 0)", x.seen(1, 0), BAD);
    }

    private static void seenDoings() {
        CHECK.about("20: DOING d, 0 to 5");
        for (int doing = 0; doing < 6; doing++) {
            AsWithTheLast x = Texts.laid("k0,0,0,0,1;e0;");
            CHECK.due("seen(0, " + doing + ")", x.seen(0, doing), 1);
            CHECK.due("firsts(0)", x.firsts(0), 1 << doing);
        }
    }

    private static void seenOutside() {
        CHECK.about("20: a place and a DOING such as there are, BAD else");
        AsWithTheLast x = new AsWithTheLast();
        int[][] wrong = {{-1, 0}, {5, 0}, {6, 5}, {0, -1}, {0, 6}, {4, 7}, {5, 6}, {-1, -1}};
        for (int[] w : wrong) {
            CHECK.due("seen(" + w[0] + ", " + w[1] + ")", x.seen(w[0], w[1]), BAD);
        }
        for (int far : FAR) {
            CHECK.due("seen(" + far + ", 0)", x.seen(far, 0), BAD);
            CHECK.due("seen(0, " + far + ")", x.seen(0, far), BAD);
        }
        CHECK.due("seen(4, 5)", x.seen(4, 5), 1);
    }

    private static void seenTwice() {
        CHECK.about("20: SEEN twice, the same and another");
        AsWithTheLast x = new AsWithTheLast();
        x.seen(0, 0);
        CHECK.due("seen(0, 0)", x.seen(0, 0), 2);
        CHECK.due("fits()", x.fits(), 15);
        CHECK.due("seen(0, 1)", x.seen(0, 1), 3);
        CHECK.due("fits(), both cannot be", x.fits(), 0);
        CHECK.due("firsts(0), both cannot be", x.firsts(0), 0);
    }

    private static void forgetNoneAndAll() {
        CHECK.about("21: how many were, none and eight");
        AsWithTheLast x = new AsWithTheLast();
        CHECK.due("forget()", x.forget(), 0);
        for (int i = 0; i < 8; i++) {
            x.seen(0, 5);
        }
        CHECK.due("forget()", x.forget(), 8);
        CHECK.due("count(8)", x.count(8), 0);
        CHECK.due("fits()", x.fits(), 15);
        CHECK.due("forget()", x.forget(), 0);
    }

    private static void fitsWithNothingSeen() {
        CHECK.about("22: FITS, nothing SEEN");
        CHECK.due("fits()", new AsWithTheLast().fits(), 15);
        CHECK.due("fits(), no row", Texts.laid(PLAIN).fits(), 15);
    }

    private static void fitsNone() {
        CHECK.about("22: FITS, none");
        for (int doing = 1; doing < 6; doing++) {
            AsWithTheLast x = new AsWithTheLast();
            x.seen(0, doing);
            CHECK.due("fits()", x.fits(), 0);
        }
    }

    /** Handed the row at first: LAST does 0 0 1 2 3, BEFORE 0 0 0 1 2, LIKEST 0 0 1 2 1, SAME 0 0 0 0 1. */
    private static void fitsOneSortAlone() {
        CHECK.about("22: FITS, each SORT by its bit");
        int[][] seen = {{4, 3, 1}, {4, 2, 2}, {3, 0, 8}, {2, 0, 10}, {2, 1, 5}, {4, 1, 12}};
        for (int[] one : seen) {
            AsWithTheLast x = new AsWithTheLast();
            x.seen(one[0], one[1]);
            CHECK.due("fits() of " + one[0] + ", " + one[1], x.fits(), one[2]);
        }
        AsWithTheLast likest = new AsWithTheLast();
        likest.seen(4, 1);
        likest.seen(2, 1);
        CHECK.due("fits(), all that was seen", likest.fits(), 4);
    }

    private static void fitsFromTheBeginning() {
        CHECK.about("22: handed THE ROW from the beginning");
        AsWithTheLast x = new AsWithTheLast();
        x.seen(4, 3);
        CHECK.due("fits(), what he hears of the first four", x.fits(), 1);
        x.tell(0);
        CHECK.due("fits(), the row longer", x.fits(), 1);
        x.seen(5, 1);
        CHECK.due("fits(), the row longer", x.fits(), 1);
        x.seen(5, 3);
        CHECK.due("fits(), the row longer", x.fits(), 0);
    }

    private static void fitsAsLaid() {
        CHECK.about("22: as LAID, whatever was heard since");
        AsWithTheLast x = new AsWithTheLast();
        x.teach(0, 5);
        x.hand(1);
        x.teach(2, 4);
        CHECK.due("seen(0, 0)", x.seen(0, 0), 1);
        CHECK.due("fits()", x.fits(), 15);
        CHECK.due("firsts(0)", x.firsts(0), 1);
        x.forget();
        x.seen(0, 4);
        CHECK.due("fits(), what he would do now", x.fits(), 0);
    }

    private static void fitsFirstAsTold() {
        CHECK.about("22: FIRST as told");
        for (int first = 0; first < 6; first++) {
            AsWithTheLast x = Texts.laid("k0,0,0,0,1;l2;e0;f" + first + ";");
            x.seen(0, first);
            CHECK.due("fits()", x.fits(), 15);
            x.seen(0, (first + 1) % 6);
            CHECK.due("fits()", x.fits(), 0);
        }
    }

    private static void firstsAllAndNone() {
        CHECK.about("23: FIRSTS, all and none");
        for (int sort = 0; sort < 4; sort++) {
            AsWithTheLast x = new AsWithTheLast();
            CHECK.due("firsts(" + sort + "), nothing seen", x.firsts(sort), 63);
            x.seen(0, 2);
            x.seen(0, 3);
            CHECK.due("firsts(" + sort + "), what cannot be", x.firsts(sort), 0);
        }
    }

    private static void firstsOneAlone() {
        CHECK.about("23: FIRSTS, each FIRST by its bit");
        for (int first = 0; first < 6; first++) {
            for (int sort = 0; sort < 4; sort++) {
                AsWithTheLast x = new AsWithTheLast();
                x.seen(0, first);
                CHECK.due("firsts(" + sort + ")", x.firsts(sort), 1 << first);
            }
        }
    }

    /** With the second thing LAST and LIKEST do 0, having heard of the first, or having done right with it by 0. */
    private static void firstsBySort() {
        CHECK.about("23: by SORT s, whichever he is");
        int[] bits = {63, 1, 63, 1};
        for (int told = 0; told < 4; told++) {
            AsWithTheLast x = Texts.laid("k1,0,62,3,2;k3,1,13,5,1;e0;e1;l" + told + ";f" + told + ";");
            x.seen(1, 0);
            for (int sort = 0; sort < 4; sort++) {
                CHECK.due("firsts(" + sort + ")", x.firsts(sort), bits[sort]);
            }
        }
    }

    private static void firstsOutside() {
        CHECK.about("23: a SORT such as there is, BAD else");
        AsWithTheLast x = new AsWithTheLast();
        CHECK.due("firsts(3)", x.firsts(3), 63);
        for (int sort : new int[] {-1, 4, 5, Integer.MIN_VALUE, Integer.MAX_VALUE}) {
            CHECK.due("firsts(" + sort + ")", x.firsts(sort), BAD);
        }
    }

    private static void askNone() {
        CHECK.about("24: none (none FITS)");
        AsWithTheLast x = new AsWithTheLast();
        x.seen(0, 1);
        CHECK.due("ask(0)", x.ask(0), NONE);
        CHECK.due("ask(1)", x.ask(1), NONE);
        x.forget();
        CHECK.due("ask(0)", x.ask(0), 0);
    }

    private static void askAll() {
        CHECK.about("24: how many, all four");
        AsWithTheLast x = new AsWithTheLast();
        CHECK.due("ask(1)", x.ask(1), 4);
        CHECK.due("ask(0)", x.ask(0), 0);
    }

    private static void askOne() {
        CHECK.about("24: how many, one that FITS alone");
        AsWithTheLast x = new AsWithTheLast();
        x.seen(4, 3);
        CHECK.due("ask(1)", x.ask(1), 1);
        CHECK.due("ask(0)", x.ask(0), 0);
    }

    /** With the kinds 0 to 3: LAST 3, BEFORE 2; LIKEST 1, 2, 3, 2; SAME 1, 2, 3, 5. */
    private static AsWithTheLast asked() {
        AsWithTheLast x = Texts.laid("k0,0,0,0,1;k1,0,0,0,1;k7,0,0,0,1;k1,0,0,0,1;f5;e0;");
        x.teach(0, 1);
        x.teach(1, 2);
        x.teach(2, 3);
        return x;
    }

    private static void askLowest() {
        CHECK.about("24: of several the lowest");
        AsWithTheLast x = asked();
        int[][] does = {{3, 2, 1, 1}, {3, 2, 2, 2}, {3, 2, 3, 3}, {3, 2, 2, 5}};
        for (int k = 0; k < 4; k++) {
            for (int sort = 0; sort < 4; sort++) {
                CHECK.due("does(" + sort + ", " + k + ")", x.does(sort, k), does[k][sort]);
            }
        }
        CHECK.due("ask(0), as few of 0 and of 3", x.ask(0), 0);
        CHECK.due("ask(1)", x.ask(1), 2);
        x.teach(2, 4);
        CHECK.due("ask(0), now fewest of the highest", x.ask(0), 3);
        CHECK.due("ask(1)", x.ask(1), 1);
    }

    private static void askAtTheWorst() {
        CHECK.about("24: at the worst");
        // LAST 1, BEFORE 1, LIKEST 2, SAME 2 with kind 0; 1, 1, 1, 5 with kind 1: at the best one would be alone.
        AsWithTheLast x = Texts.laid("k0,0,0,0,1;k31,0,0,0,1;k31,0,0,0,1;f5;");
        x.teach(0, 2);
        x.teach(2, 1);
        x.teach(2, 1);
        int[][] does = {{1, 1, 2, 2}, {1, 1, 1, 5}};
        for (int k = 0; k < 2; k++) {
            for (int sort = 0; sort < 4; sort++) {
                CHECK.due("does(" + sort + ", " + k + ")", x.does(sort, k), does[k][sort]);
            }
        }
        CHECK.due("ask(0)", x.ask(0), 0);
        CHECK.due("ask(1)", x.ask(1), 2);
    }

    private static void askNow() {
        CHECK.about("24: were it handed now");
        AsWithTheLast x = asked();
        CHECK.due("ask(1)", x.ask(1), 2);
        for (int i = 0; i < 3; i++) {
            x.undo();
        }
        CHECK.due("ask(1), nothing heard", x.ask(1), 4);
    }

    private static void askOutside() {
        CHECK.about("24: what is 0 or 1, BAD else");
        AsWithTheLast x = new AsWithTheLast();
        for (int what : new int[] {-1, 2, 3, Integer.MIN_VALUE, Integer.MAX_VALUE}) {
            CHECK.due("ask(" + what + ")", x.ask(what), BAD);
        }
    }

    private static void ruleOfNoMarks() {
        CHECK.about("25: RIGHT, of no MARKS");
        CHECK.due("rule(2), of all kinds", Texts.laid("k3,2,0,0,1;k0,2,0,0,1;").rule(2), 0);
        CHECK.due("rule(5), of the only kind", Texts.laid("k31,5,0,0,1;").rule(5), 0);
        CHECK.due("rule(0), of a kind without marks", Texts.laid("k0,0,0,0,1;").rule(0), 0);
    }

    private static void ruleOfAllMarks() {
        CHECK.about("25: RIGHT, of all MARKS (31)");
        AsWithTheLast x = Texts.laid("k31,1,0,0,1;k15,0,0,0,1;k23,0,0,0,1;k27,0,0,0,1;k29,0,0,0,1;k30,0,0,0,1;");
        CHECK.due("rule(1)", x.rule(1), 31);
        CHECK.due("rule(0)", x.rule(0), NONE);
    }

    private static void ruleNone() {
        CHECK.about("25: none");
        AsWithTheLast x = Texts.laid("k1,0,0,0,1;k3,1,0,0,1;k1,2,0,0,1;");
        CHECK.due("rule(0), what has its marks is another one", x.rule(0), NONE);
        CHECK.due("rule(2), the same marks", x.rule(2), NONE);
        CHECK.due("rule(1)", x.rule(1), 2);
    }

    private static void ruleOfFewestMarks() {
        CHECK.about("25: the one of fewest MARKS");
        // 3 is right too, and lower, but of two marks.
        AsWithTheLast x = Texts.laid("k19,1,0,0,1;k1,0,0,0,1;k2,0,0,0,1;");
        CHECK.due("rule(1)", x.rule(1), 16);
    }

    private static void ruleLowest() {
        CHECK.about("25: of several the lowest");
        CHECK.due("rule(1), of one mark", Texts.laid("k31,1,0,0,1;k0,0,0,0,1;").rule(1), 1);
        CHECK.due("rule(1), of one mark", Texts.laid("k30,1,0,0,1;k2,0,0,0,1;").rule(1), 4);
        CHECK.due("rule(1), of two marks", Texts.laid("k7,1,0,0,1;k1,0,0,0,1;k2,0,0,0,1;k4,0,0,0,1;").rule(1), 3);
    }

    private static void ruleOfADoingThatNoneHas() {
        CHECK.about("25: of all KINDS whose R is that DOING, and there is no such KIND");
        CHECK.due("rule(1), holds of none", Texts.laid("k0,0,0,0,1;").rule(1), 1);
        CHECK.due("rule(1), holds of none", Texts.laid("k15,0,0,0,1;").rule(1), 16);
        CHECK.due("rule(1), every rule holds of one", Texts.laid("k31,0,0,0,1;").rule(1), NONE);
    }

    private static void ruleOutside() {
        CHECK.about("25: a DOING, 0 to 5, BAD else");
        AsWithTheLast x = Texts.laid("k0,5,0,0,1;k1,0,0,0,1;");
        CHECK.due("rule(0)", x.rule(0), 1);
        CHECK.due("rule(5)", x.rule(5), NONE);
        for (int doing : new int[] {-1, 6, 7, Integer.MIN_VALUE, Integer.MAX_VALUE}) {
            CHECK.due("rule(" + doing + ")", x.rule(doing), BAD);
        }
    }

    private static AsWithTheLast ruled() {
        return Texts.laid("k1,0,0,0,1;k3,1,0,0,1;k3,0,0,0,1;k7,0,0,0,1;k5,1,0,0,1;k8,1,0,0,1;");
    }

    private static void generalFirst() {
        CHECK.about("26: TOO GENERAL: the first KIND");
        CHECK.due("wrong(1, 2, false), of 2 and 3", ruled().wrong(1, 2, false), 2);
        CHECK.due("wrong(0, 1, false), of 1 and 4", ruled().wrong(0, 1, false), 1);
        CHECK.due("wrong(0, 8, false), of the last alone", ruled().wrong(0, 8, false), 5);
        CHECK.due("wrong(5, 0, false), of the first", ruled().wrong(5, 0, false), 0);
    }

    private static void generalNone() {
        CHECK.about("26: TOO GENERAL: none");
        CHECK.due("wrong(0, 7, false)", ruled().wrong(0, 7, false), NONE);
        CHECK.due("wrong(1, 8, false)", ruled().wrong(1, 8, false), NONE);
        CHECK.due("wrong(0, 16, false), holds of none", ruled().wrong(0, 16, false), NONE);
        CHECK.due("wrong(0, 31, false), holds of none", ruled().wrong(0, 31, false), NONE);
    }

    private static void narrowFirst() {
        CHECK.about("26: TOO NARROW: the first KIND");
        CHECK.due("wrong(0, 2, true), of the first", ruled().wrong(0, 2, true), 0);
        CHECK.due("wrong(1, 4, true), of 1 and 5", ruled().wrong(1, 4, true), 1);
        CHECK.due("wrong(1, 1, true), of the last alone", ruled().wrong(1, 1, true), 5);
        CHECK.due("wrong(0, 31, true)", ruled().wrong(0, 31, true), 0);
    }

    private static void narrowNone() {
        CHECK.about("26: TOO NARROW: none");
        CHECK.due("wrong(0, 1, true), though it holds of others", ruled().wrong(0, 1, true), NONE);
        CHECK.due("wrong(5, 31, true), a doing that none has", ruled().wrong(5, 31, true), NONE);
        CHECK.due("wrong(1, 0, true)", ruled().wrong(1, 0, true), NONE);
    }

    private static void wrongOfNoMarksAndOfAll() {
        CHECK.about("26: MARKS from 0 to 31");
        AsWithTheLast x = Texts.laid("k31,1,0,0,1;k30,0,0,0,1;k15,1,0,0,1;");
        CHECK.due("wrong(1, 0, false)", x.wrong(1, 0, false), 1);
        CHECK.due("wrong(1, 0, true)", x.wrong(1, 0, true), NONE);
        CHECK.due("wrong(1, 31, false)", x.wrong(1, 31, false), NONE);
        CHECK.due("wrong(1, 31, true)", x.wrong(1, 31, true), 2);
        CHECK.due("wrong(0, 31, false)", x.wrong(0, 31, false), 0);
        CHECK.due("wrong(1, 16, true)", x.wrong(1, 16, true), 2);
    }

    private static void wrongOutside() {
        CHECK.about("26: a DOING and MARKS such as there are, BAD else");
        AsWithTheLast x = ruled();
        for (boolean narrow : new boolean[] {false, true}) {
            for (int doing : new int[] {-1, 6, 7, Integer.MIN_VALUE, Integer.MAX_VALUE}) {
                CHECK.due("wrong(" + doing + ", 0, " + narrow + ")", x.wrong(doing, 0, narrow), BAD);
            }
            for (int marks : new int[] {-1, 32, 33, 64, Integer.MIN_VALUE, Integer.MAX_VALUE}) {
                CHECK.due("wrong(0, " + marks + ", " + narrow + ")", x.wrong(0, marks, narrow), BAD);
            }
        }
        CHECK.due("wrong(5, 31, false)", x.wrong(5, 31, false), NONE);
    }
}
