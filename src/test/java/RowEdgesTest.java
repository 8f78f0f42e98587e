/** The edges that promises 16 to 19 and the terms of rows name, a case each. */
public final class RowEdgesTest {
    private static final int BAD = -1, NO = -2, NONE = -4;
    private static final int GOOD = 0, SPOILT = 1, NOTHING = 2;
    private static final int LAST = 0, BEFORE = 1, LIKEST = 2, SAME = 3;
    /** Of these two each is spoilt by whatever it should not have. */
    private static final String TWO = "k0,0,62,5,1;k1,1,61,9,1;";
    private static final Check CHECK = new Check();

    public static void main(String[] args) {
        CHECK.each(
            RowEdgesTest::runOfNoRow, RowEdgesTest::runAtTheEndsOfTheRow, RowEdgesTest::runOutsideTheRow,
            RowEdgesTest::runBySortsOutside, RowEdgesTest::runWhatOutside, RowEdgesTest::runHowItGoes,
            RowEdgesTest::runFirstGoodAtOnce, RowEdgesTest::runFirstGoodAtTheEnd, RowEdgesTest::runNoneGood,
            RowEdgesTest::runMostThatCanBeLost, RowEdgesTest::runInPlaceOfTheOneThatIs,
            RowEdgesTest::runWithWordsHeard, RowEdgesTest::runWithFortyWords, RowEdgesTest::roundOfNoRow,
            RowEdgesTest::roundLeast, RowEdgesTest::roundGreatest, RowEdgesTest::roundNone,
            RowEdgesTest::roundOneByOne, RowEdgesTest::roundInTheThird, RowEdgesTest::roundOfTheLastSixty,
            RowEdgesTest::roundFromWordsHeard, RowEdgesTest::orderOfSeven, RowEdgesTest::orderOfEight,
            RowEdgesTest::orderOfNoRow, RowEdgesTest::orderOfOne, RowEdgesTest::orderOutside,
            RowEdgesTest::orderOfSeveral, RowEdgesTest::orderOfLess, RowEdgesTest::orderWithFortyWords,
            RowEdgesTest::bestNone, RowEdgesTest::bestOfNoRow, RowEdgesTest::bestOfSeveralKinds,
            RowEdgesTest::bestOfSeveralDoings, RowEdgesTest::bestIsTheGreatestWord, RowEdgesTest::bestOutside,
            RowEdgesTest::bestWithFortyWords);
        CHECK.end();
    }

    private static void teachTimes(AsWithTheLast x, int times, int k, int doing) {
        for (int i = 0; i < times; i++) {
            x.teach(k, doing);
        }
    }

    private static void runOfNoRow() {
        CHECK.about("16: RUN of THE ROW being empty");
        AsWithTheLast x = Texts.laid(TWO);
        for (int sort = 0; sort < 4; sort++) {
            CHECK.due("run(sort, -1, 0)", x.run(sort, -1, 0), 0);
            CHECK.due("run(sort, -1, 1)", x.run(sort, -1, 1), NONE);
            CHECK.due("run(sort, 0, 0)", x.run(sort, 0, 0), BAD);
            CHECK.due("run(sort, 0, 1)", x.run(sort, 0, 1), BAD);
        }
    }

    private static void runAtTheEndsOfTheRow() {
        CHECK.about("16: the k-th (0 first), the first and the last of ten");
        AsWithTheLast x = Texts.laid("k0,1,63,1,1;k0,2,63,1,1;k0,3,0,1,1;f5;e2;" + Texts.times(7, "e0;") + "e1;e0;");
        CHECK.due("run(0, 0, 0)", x.run(LAST, 0, 0), 5);
        CHECK.due("run(0, 0, 1)", x.run(LAST, 0, 1), NOTHING);
        CHECK.due("run(0, 1, 0)", x.run(LAST, 1, 0), 3);
        CHECK.due("run(0, 9, 0)", x.run(LAST, 9, 0), 2);
        CHECK.due("run(0, 9, 1)", x.run(LAST, 9, 1), SPOILT);
        CHECK.due("run(0, 8, 1)", x.run(LAST, 8, 1), SPOILT);
        CHECK.due("run(0, 7, 1)", x.run(LAST, 7, 1), GOOD);
    }

    private static void runOutsideTheRow() {
        CHECK.about("16: k is -1 or a place such as there is, BAD else");
        AsWithTheLast x = Texts.laid(TWO + "e0;e1;e0;");
        CHECK.due("run(0, 2, 0)", x.run(LAST, 2, 0), 1);
        for (int k : new int[] {-2, -3, 3, 4, 9, 10, Integer.MIN_VALUE, Integer.MAX_VALUE}) {
            CHECK.due("run(0, " + k + ", 0)", x.run(LAST, k, 0), BAD);
            CHECK.due("run(0, " + k + ", 1)", x.run(LAST, k, 1), BAD);
        }
        AsWithTheLast full = Texts.laid(TWO + Texts.times(10, "e0;"));
        CHECK.due("run(0, 9, 0) of ten", full.run(LAST, 9, 0), 0);
        CHECK.due("run(0, 10, 0) of ten", full.run(LAST, 10, 0), BAD);
    }

    private static void runBySortsOutside() {
        CHECK.about("16: a SORT such as there is, BAD else");
        AsWithTheLast x = Texts.laid(TWO + "e0;");
        for (int sort : new int[] {-1, 4, 5, Integer.MIN_VALUE, Integer.MAX_VALUE}) {
            CHECK.due("run(" + sort + ", 0, 0)", x.run(sort, 0, 0), BAD);
            CHECK.due("run(" + sort + ", -1, 0)", x.run(sort, -1, 0), BAD);
            CHECK.due("run(" + sort + ", -1, 1)", x.run(sort, -1, 1), BAD);
        }
        CHECK.due("run(3, 0, 1)", x.run(SAME, 0, 1), GOOD);
    }

    private static void runWhatOutside() {
        CHECK.about("16: what is 0 or 1, BAD else");
        AsWithTheLast x = Texts.laid(TWO + "e0;");
        for (int what : new int[] {-1, 2, 3, Integer.MIN_VALUE, Integer.MAX_VALUE}) {
            CHECK.due("run(0, 0, " + what + ")", x.run(LAST, 0, what), BAD);
            CHECK.due("run(0, -1, " + what + ")", x.run(LAST, -1, what), BAD);
        }
    }

    private static void runHowItGoes() {
        CHECK.about("16: GOOD (0), SPOILT (1), NOTHING (2)");
        AsWithTheLast x = Texts.laid("k0,0,63,5,1;k0,1,1,0,1;k0,2,0,9,1;e0;e1;e2;");
        CHECK.due("run(0, 0, 1)", x.run(LAST, 0, 1), GOOD);
        CHECK.due("run(0, 1, 1), worth nothing", x.run(LAST, 1, 1), SPOILT);
        CHECK.due("run(0, 2, 1)", x.run(LAST, 2, 1), NOTHING);
        CHECK.due("run(0, -1, 0)", x.run(LAST, -1, 0), 0);
    }

    private static void runFirstGoodAtOnce() {
        CHECK.about("16: the first that is GOOD, at once");
        AsWithTheLast x = Texts.laid(TWO + "e0;e0;e1;e1;");
        CHECK.due("run(0, -1, 1)", x.run(LAST, -1, 1), 0);
    }

    private static void runFirstGoodAtTheEnd() {
        CHECK.about("16: the first that is GOOD, the last of ten");
        AsWithTheLast x = Texts.laid(TWO + "f5;" + Texts.times(4, "e0;e1;") + "e0;e0;");
        CHECK.due("run(0, -1, 1)", x.run(LAST, -1, 1), 9);
        CHECK.due("run(3, -1, 1), another sort sooner", x.run(SAME, -1, 1), 2);
    }

    private static void runNoneGood() {
        CHECK.about("16: NONE is GOOD");
        AsWithTheLast x = Texts.laid(TWO + "f5;" + Texts.times(5, "e0;e1;"));
        CHECK.due("run(0, -1, 1)", x.run(LAST, -1, 1), NONE);
        CHECK.due("run(0, -1, 0)", x.run(LAST, -1, 0), 70);
        AsWithTheLast one = Texts.laid(TWO + "f5;e0;");
        CHECK.due("run(0, -1, 1)", one.run(LAST, -1, 1), NONE);
    }

    private static void runMostThatCanBeLost() {
        CHECK.about("16: what is lost in all, all of ten");
        AsWithTheLast x = Texts.laid("k0,1,63,20,1;k0,2,63,20,1;" + Texts.times(5, "e0;e1;"));
        CHECK.due("run(0, -1, 0)", x.run(LAST, -1, 0), 200);
    }

    private static void runInPlaceOfTheOneThatIs() {
        CHECK.about("16: by a SORT, in place of the one that is");
        for (int told = 0; told < 4; told++) {
            AsWithTheLast x = Texts.laid(TWO + "f5;e0;e1;e0;e1;l" + told + ";");
            CHECK.due("run(0, 1, 0)", x.run(LAST, 1, 0), 0);
            CHECK.due("run(1, 1, 0)", x.run(BEFORE, 1, 0), 5);
            CHECK.due("run(1, 2, 0)", x.run(BEFORE, 2, 0), 0);
            CHECK.due("run(2, 3, 0)", x.run(LIKEST, 3, 0), 1);
            CHECK.due("run(3, 1, 0)", x.run(SAME, 1, 0), 5);
            CHECK.due("count(1)", x.count(1), told);
        }
    }

    private static void runWithWordsHeard() {
        CHECK.about("16: from now on, who heard what was heard");
        AsWithTheLast x = Texts.laid(TWO + "f5;e0;");
        CHECK.due("run(0, 0, 0)", x.run(LAST, 0, 0), 5);
        x.teach(1, 3);
        CHECK.due("run(0, 0, 0)", x.run(LAST, 0, 0), 3);
        CHECK.due("run(1, 0, 0), of one word", x.run(BEFORE, 0, 0), 5);
        CHECK.due("run(2, 0, 0)", x.run(LIKEST, 0, 0), 3);
        CHECK.due("run(3, 0, 0)", x.run(SAME, 0, 0), 5);
        x.undo();
        CHECK.due("run(0, 0, 0), undone", x.run(LAST, 0, 0), 5);
    }

    private static void runWithFortyWords() {
        CHECK.about("16: of the last 40 the oldest gives way while he is handed THE ROW");
        AsWithTheLast x = Texts.laid(TWO + "f5;e0;e1;");
        x.teach(1, 1);
        teachTimes(x, 38, 0, 3);
        CHECK.due("run(3, 1, 1), of 39", x.run(SAME, 1, 1), GOOD);
        CHECK.due("run(3, -1, 0), of 39", x.run(SAME, -1, 0), 5);
        x.teach(0, 3);
        CHECK.due("run(3, 1, 1), of 40", x.run(SAME, 1, 1), SPOILT);
        CHECK.due("run(3, 1, 0), of 40", x.run(SAME, 1, 0), 5);
        CHECK.due("run(2, 1, 0), of 40", x.run(LIKEST, 1, 0), 0);
        CHECK.due("run(3, -1, 0), of 40", x.run(SAME, -1, 0), 14);
        CHECK.due("does(3, 1), still of 40", x.does(SAME, 1), 1);
    }

    private static void round(String text, int due) {
        CHECK.due("round() of " + text, Texts.laid(text).round(), due);
    }

    private static void roundOfNoRow() {
        CHECK.about("17: none (THE ROW being empty, too)");
        AsWithTheLast x = Texts.laid(TWO);
        CHECK.due("round()", x.round(), NONE);
        x.teach(0, 1);
        CHECK.due("round()", x.round(), NONE);
        x.tell(0);
        CHECK.due("round() of one", x.round(), 1);
        x.noRow();
        CHECK.due("round()", x.round(), NONE);
    }

    private static void roundLeast() {
        CHECK.about("17: the least p (1 to 20), one");
        for (int sort = 0; sort < 4; sort++) {
            round(TWO + "e0;l" + sort + ";", 1);
            round(TWO + "e0;e1;f5;l" + sort + ";", sort == BEFORE ? 3 : 1);
        }
    }

    private static void roundGreatest() {
        CHECK.about("17: the least p (1 to 20), nineteen and twenty");
        round("k0,3,0,1,1;k0,2,0,1,1;k6,5,0,1,1;k1,2,0,1,1;k9,0,0,1,1;l2;f2;e3;e0;e1;e2;e0;e4;", 19);
        round("k5,4,0,1,1;k5,5,0,1,1;k2,1,0,1,1;k4,5,0,1,1;l2;f3;e3;e1;e2;e3;e0;", 20);
        round("k3,1,0,1,1;k6,4,0,1,1;k7,1,0,1,1;k3,0,0,1,1;l2;f4;e2;e3;e1;e0;e2;e2;e1;e2;", 20);
    }

    private static void roundNone() {
        CHECK.about("17: none, of all p");
        round("k6,5,0,1,1;k4,1,0,1,1;k7,5,0,1,1;k6,3,0,1,1;k2,1,0,1,1;k5,4,0,1,1;l2;f4;e5;e3;e5;e0;e2;e1;", NONE);
        round("k13,4,0,1,1;k6,1,0,1,1;k13,2,0,1,1;k17,3,0,1,1;k24,5,0,1,1;k22,1,0,1,1;l2;f0;e1;e2;e4;e1;e0;e5;",
                NONE);
    }

    /** Of these it would be another p, if it did not matter with which of the things he does what. */
    private static void roundOneByOne() {
        CHECK.about("17: just what he does, one by one");
        round("k21,2,0,1,1;k6,2,0,1,1;k5,2,0,1,1;k21,0,0,1,1;k14,2,0,1,1;k30,0,0,1,1;"
                + "l2;f4;e2;e0;e3;e0;e3;e0;e5;e3;", 7);
        round("k25,4,0,1,1;k20,0,0,1,1;k3,0,0,1,1;k1,3,0,1,1;k1,0,0,1,1;k8,5,0,1,1;l2;f2;e5;e1;e3;e4;", 20);
    }

    /** Of these the first p times are as the second p, for a p less than what is due, but not as the third. */
    private static void roundInTheThird() {
        CHECK.about("17: and in the third p");
        round("k3,5,0,1,1;k3,0,0,1,1;k2,3,0,1,1;k0,5,0,1,1;k1,2,0,1,1;k2,2,0,1,1;l2;f2;e1;e0;e3;e1;e5;e2;e0;e0;", 7);
        AsWithTheLast x = Texts.laid("k31,0,0,1,1;k8,0,0,1,1;k10,4,0,1,1;k20,3,0,1,1;k31,5,0,1,1;k26,0,0,1,1;"
                + "l2;f3;e1;e3;e5;e0;e4;e3;");
        teachTimes(x, 41, 4, 0);
        CHECK.due("round() after 41 words", x.round(), NONE);
    }

    /** Of these it would be another p, if he were looked at from a time sooner, or later, or from the first. */
    private static void roundOfTheLastSixty() {
        CHECK.about("17: of the last 60 times of 80");
        // Sooner: 19.
        round("k28,5,0,1,1;k7,2,0,1,1;k30,4,0,1,1;k30,3,0,1,1;k14,5,0,1,1;k22,2,0,1,1;"
                + "l2;f4;e4;e0;e0;e3;e5;e0;e2;e0;", 1);
        // Later: 1.
        AsWithTheLast x = Texts.laid("k8,0,0,1,1;k2,1,0,1,1;k18,0,0,1,1;k9,5,0,1,1;k16,1,0,1,1;k8,5,0,1,1;"
                + "l2;f0;e3;e0;e4;e1;e4;e3;e2;e5;");
        teachTimes(x, 21, 0, 3);
        CHECK.due("round() after 21 words", x.round(), 19);
        // From the first: another one.
        round("k9,5,0,1,1;k16,5,0,1,1;k3,2,0,1,1;k24,4,0,1,1;k21,4,0,1,1;"
                + "l2;f3;e0;e0;e4;e0;e0;e2;e2;e2;e2;e0;", 1);
    }

    private static void roundFromWordsHeard() {
        CHECK.about("17: THE LEARNER, who heard what was heard");
        String text = "k7,3,0,1,1;k1,3,0,1,1;k7,0,0,1,1;l2;f5;e2;e2;e0;e2;e1;e2;";
        round(text, 20);
        AsWithTheLast x = Texts.laid(text);
        teachTimes(x, 6, 1, 3);
        CHECK.due("round() after six words", x.round(), 1);
        CHECK.due("count(4)", x.count(4), 6);
    }

    private static void orderOfSeven() {
        CHECK.about("18: 7 at most; NO else: seven");
        AsWithTheLast x = Texts.laid(TWO + "f5;e1;e0;e1;e0;e1;e0;e1;");
        int[] row = {0, 0, 0, 1, 1, 1, 1};
        CHECK.due("order(-1)", x.order(-1), 14);
        for (int place = 0; place < 7; place++) {
            CHECK.due("order(" + place + ")", x.order(place), row[place]);
            CHECK.due("errand(" + place + "), as it was", x.errand(place), 1 - place % 2);
        }
        CHECK.due("order(7)", x.order(7), BAD);
        AsWithTheLast six = Texts.laid("k0,0,0,1,1;k0,1,0,1,1;k0,2,0,1,1;k0,3,0,1,1;k0,4,0,1,1;k0,5,0,1,1;"
                + "e5;e4;e5;e3;e2;e1;e0;");
        int[] all = {0, 1, 2, 3, 4, 5, 5};
        for (int place = 0; place < 7; place++) {
            CHECK.due("order(" + place + ") of all kinds", six.order(place), all[place]);
        }
    }

    private static void orderOfEight() {
        CHECK.about("18: 7 at most; NO else: eight and ten");
        AsWithTheLast x = Texts.laid(TWO + Texts.times(7, "e0;"));
        CHECK.due("order(-1) of seven", x.order(-1), 0);
        for (int length = 8; length <= 10; length++) {
            x.tell(0);
            for (int place = -1; place < length; place++) {
                CHECK.due("order(" + place + ") of " + length, x.order(place), NO);
            }
            CHECK.due("order of " + length, x.order(length), BAD);
        }
        x.noRow();
        x.tell(1);
        CHECK.due("order(0), of one again", x.order(0), 1);
    }

    private static void orderOfNoRow() {
        CHECK.about("18: ORDER of THE ROW being empty");
        AsWithTheLast x = Texts.laid(TWO);
        CHECK.due("order(-1)", x.order(-1), 0);
        CHECK.due("order(0)", x.order(0), BAD);
    }

    private static void orderOfOne() {
        CHECK.about("18: ORDER of one ERRAND");
        AsWithTheLast x = Texts.laid(TWO + "e1;");
        CHECK.due("order(-1)", x.order(-1), 9);
        CHECK.due("order(0)", x.order(0), 1);
        CHECK.due("order(1)", x.order(1), BAD);
    }

    private static void orderOutside() {
        CHECK.about("18: a place of THE ROW, or -1, BAD else");
        AsWithTheLast x = Texts.laid(TWO + "e1;e0;");
        CHECK.due("order(1)", x.order(1), 1);
        for (int place : new int[] {-2, -3, 2, 3, 6, 7, Integer.MIN_VALUE, Integer.MAX_VALUE}) {
            CHECK.due("order(" + place + ")", x.order(place), BAD);
        }
    }

    private static void orderIs(AsWithTheLast x, int lost, int... kinds) {
        CHECK.due("order(-1)", x.order(-1), lost);
        for (int place = 0; place < kinds.length; place++) {
            CHECK.due("order(" + place + ")", x.order(place), kinds[place]);
        }
    }

    private static void orderOfSeveral() {
        CHECK.about("18: of several the first (by KINDS, the lower first)");
        orderIs(Texts.laid("k0,0,0,9,1;k1,1,0,9,1;k2,2,0,9,1;e2;e1;e0;e2;e0;e1;e0;"), 0, 0, 0, 0, 1, 1, 2, 2);
        // With 5 at first each of the two goes wrong once, whichever is the first.
        orderIs(Texts.laid(TWO + "f5;e1;e1;e0;e0;"), 14, 0, 0, 1, 1);
        // The same kinds told in another order: the numbers count.
        orderIs(Texts.laid("k1,1,61,9,1;k0,0,62,5,1;f5;e1;e1;e0;e0;"), 14, 0, 0, 1, 1);
    }

    private static void orderOfLess() {
        CHECK.about("18: by which least is lost, though it is not the first");
        orderIs(Texts.laid(TWO + "f1;e0;e1;"), 5, 1, 0);
        orderIs(Texts.laid(TWO + "f1;e0;e1;e0;e1;e0;e1;"), 5, 1, 1, 1, 0, 0, 0);
        AsWithTheLast x = Texts.laid(TWO + "e0;e1;");
        orderIs(x, 9, 0, 1);
        x.teach(0, 1);
        orderIs(x, 5, 1, 0);
    }

    private static void orderWithFortyWords() {
        CHECK.about("18: of the last 40 the oldest gives way while he is handed the row");
        AsWithTheLast x = Texts.laid(TWO + "l3;f5;e0;e1;");
        x.teach(1, 1);
        teachTimes(x, 38, 0, 3);
        orderIs(x, 5, 0, 1);
        x.teach(0, 3);
        orderIs(x, 5, 1, 0);
    }

    private static void bestIs(AsWithTheLast x, int word, int lost) {
        CHECK.due("best(0)", x.best(0), word);
        CHECK.due("best(1)", x.best(1), lost);
    }

    private static void bestNone() {
        CHECK.about("19: if that is less than without; none; as much without one");
        bestIs(Texts.laid(TWO + "e0;"), NONE, 0);
        bestIs(Texts.laid(TWO + "e0;e1;"), NONE, 9);
        bestIs(Texts.laid("k0,1,63,0,1;e0;"), NONE, 0);
        bestIs(Texts.laid(TWO + "f1;e0;e1;"), 0, 9);
        // No word is of any use to BEFORE with one thing.
        bestIs(Texts.laid(TWO + "l1;f5;e1;"), NONE, 9);
        AsWithTheLast x = Texts.laid(TWO + "e0;");
        x.teach(1, 4);
        bestIs(x, 0, 0);
        x.teach(1, 0);
        bestIs(x, NONE, 0);
    }

    private static void bestOfNoRow() {
        CHECK.about("19: TEACH, THE ROW being empty");
        bestIs(Texts.laid(TWO), NONE, 0);
    }

    private static void bestOfSeveralKinds() {
        CHECK.about("19: of several the first (by KIND)");
        bestIs(Texts.laid("k0,0,0,0,1;k1,5,63,9,1;k3,3,0,0,1;e1;"), 5, 0);
        // SAME goes by the word of its kind alone: of two as good that of the lower kind.
        bestIs(Texts.laid("k0,1,63,9,1;k1,2,63,9,1;l3;e1;e0;"), 1, 9);
        bestIs(Texts.laid("k0,1,63,8,1;k1,2,63,9,1;l3;e1;e0;"), 8, 8);
    }

    private static void bestOfSeveralDoings() {
        CHECK.about("19: of several the first (by KIND, then DOING)");
        bestIs(Texts.laid("k0,5,3,9,1;e0;"), 2, 0);
        bestIs(Texts.laid("k0,5,27,9,1;e0;"), 2, 0);
        bestIs(Texts.laid("k0,5,31,9,1;e0;"), 5, 0);
        bestIs(Texts.laid("k0,5,61,9,1;e0;"), 1, 0);
        // By kind ahead of doing: word 2 of kind 1 is as good as word 5 of kind 0.
        bestIs(Texts.laid("k0,5,31,9,1;k1,2,59,9,1;l3;e0;e1;"), 5, 9);
    }

    private static void bestIsTheGreatestWord() {
        CHECK.about("19: it, as 6 times the KIND and the DOING, 35 at most");
        bestIs(Texts.laid(Texts.times(5, "k0,0,0,0,1;") + "k0,5,31,9,1;l3;e5;"), 35, 0);
        bestIs(Texts.laid("k0,1,1,9,1;k0,0,0,0,1;e0;"), 1, 0);
        AsWithTheLast x = Texts.laid("k0,0,62,9,1;f1;e0;");
        bestIs(x, 0, 0);
    }

    private static void bestOutside() {
        CHECK.about("19: what is 0 or 1, BAD else");
        AsWithTheLast x = Texts.laid(TWO + "f1;e0;");
        bestIs(x, 0, 0);
        for (int what : new int[] {-1, 2, 3, Integer.MIN_VALUE, Integer.MAX_VALUE}) {
            CHECK.due("best(" + what + ")", x.best(what), BAD);
        }
    }

    private static void bestWithFortyWords() {
        CHECK.about("19: of the last 40 the oldest gives way to what is TAUGHT now");
        AsWithTheLast x = Texts.laid(TWO + "l3;f5;e1;e0;");
        x.teach(1, 1);
        teachTimes(x, 38, 0, 3);
        bestIs(x, 0, 0);
        x.teach(0, 3);
        bestIs(x, NONE, 5);
    }
}
