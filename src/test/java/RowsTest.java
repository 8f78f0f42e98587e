/** Promises 16 to 19: runs of the row, what he comes round to, the best order, the best word. */
public final class RowsTest {
    private static final int BAD = -1, NO = -2, NONE = -4;
    private static final Check CHECK = new Check();

    public static void main(String[] args) {
        run();
        runOfWordsHeard();
        runOfFortyWords();
        round();
        roundOfWordsHeard();
        order();
        orderOfSeveral();
        orderOfWordsHeard();
        best();
        CHECK.end();
    }

    private static void run() {
        CHECK.about("promise 16");
        AsWithTheLast x = new AsWithTheLast();
        int[][] doings = {{0, 0, 1, 2, 3}, {0, 0, 0, 1, 2}, {0, 0, 1, 2, 1}, {0, 0, 0, 0, 1}};
        int[][] goes = {{0, 1, 1, 1, 1}, {0, 1, 1, 1, 1}, {0, 1, 1, 1, 0}, {0, 1, 1, 1, 0}};
        int[] lost = {22, 22, 17, 17};
        for (int sort = 0; sort < 4; sort++) {
            for (int k = 0; k < 5; k++) {
                CHECK.due("run(" + sort + ", " + k + ", 0)", x.run(sort, k, 0), doings[sort][k]);
                CHECK.due("run(" + sort + ", " + k + ", 1)", x.run(sort, k, 1), goes[sort][k]);
            }
            CHECK.due("run(" + sort + ", -1, 0)", x.run(sort, -1, 0), lost[sort]);
            CHECK.due("run(" + sort + ", -1, 1)", x.run(sort, -1, 1), 0);
        }
        int[][] wrong = {{4, 0, 0}, {-1, 0, 0}, {0, 5, 0}, {0, -2, 0}, {0, 0, 2}, {0, 0, -1}, {0, -1, 2}};
        for (int[] w : wrong) {
            CHECK.due("run(" + w[0] + ", " + w[1] + ", " + w[2] + ")", x.run(w[0], w[1], w[2]), BAD);
        }
        CHECK.due("count(4), nothing heard", x.count(4), 0);
        CHECK.due("count(5), no day", x.count(5), 0);
        x.noRow();
        CHECK.due("run(0, -1, 0) of no row", x.run(0, -1, 0), 0);
        CHECK.due("run(0, -1, 1) of no row", x.run(0, -1, 1), NONE);
        CHECK.due("run(0, 0, 0) of no row", x.run(0, 0, 0), BAD);
        AsWithTheLast y = Texts.laid("k1,1,0,9,1;k2,2,1,9,1;e0;e1;e0;e0;");
        CHECK.due("run(0, 0, 1), nothing", y.run(0, 0, 1), 2);
        CHECK.due("run(0, 1, 1), nothing", y.run(0, 1, 1), 2);
        CHECK.due("run(0, 2, 0)", y.run(0, 2, 0), 2);
        CHECK.due("run(0, 3, 1)", y.run(0, 3, 1), 0);
        CHECK.due("run(0, -1, 0)", y.run(0, -1, 0), 0);
        CHECK.due("run(0, -1, 1)", y.run(0, -1, 1), 3);
    }

    private static void runOfWordsHeard() {
        CHECK.about("promise 16, from now on");
        AsWithTheLast x = Texts.laid("k0,1,63,4,1;k3,2,63,6,1;e0;e1;e0;l3;f5;");
        CHECK.due("run(3, -1, 0)", x.run(3, -1, 0), 10);
        x.teach(1, 2);
        x.teach(0, 1);
        CHECK.due("run(3, -1, 0)", x.run(3, -1, 0), 0);
        CHECK.due("run(0, -1, 0)", x.run(0, -1, 0), 10);
        CHECK.due("run(0, -1, 1)", x.run(0, -1, 1), 0);
        CHECK.due("run(1, 0, 0)", x.run(1, 0, 0), 2);
        CHECK.due("run(1, 1, 0)", x.run(1, 1, 0), 1);
        CHECK.due("run(1, 2, 0)", x.run(1, 2, 0), 1);
        CHECK.due("run(1, -1, 1)", x.run(1, -1, 1), 2);
        CHECK.due("run(2, -1, 0)", x.run(2, -1, 0), 0);
    }

    /** A word falls out of the forty while the row goes on. */
    private static void runOfFortyWords() {
        CHECK.about("promise 16, forty words");
        AsWithTheLast x = Texts.laid("k0,1,63,4,1;k31,2,63,6,1;e1;e0;e1;l3;f5;");
        x.teach(1, 2);
        for (int i = 0; i < 39; i++) {
            x.teach(0, 3);
        }
        CHECK.due("run(3, 0, 0)", x.run(3, 0, 0), 2);
        CHECK.due("run(3, 1, 0)", x.run(3, 1, 0), 3);
        CHECK.due("run(3, 2, 0)", x.run(3, 2, 0), 5);
        CHECK.due("run(2, 2, 0)", x.run(2, 2, 0), 1);
        CHECK.due("run(3, -1, 0)", x.run(3, -1, 0), 10);
    }

    private static void round() {
        CHECK.about("promise 17");
        int[] rounds = {1, 2, 3, 5, 7, 10, 19, 20, NONE, 7};
        String[] texts = {"k1,3,0,1,1;l0;f4;e0;", "k5,1,0,1,1;k0,4,0,1,1;l1;f1;e1;e0;e1;",
            "k2,3,0,1,1;k2,2,0,1,1;l1;f1;e0;e1;",
            "k1,4,0,1,1;k1,1,0,1,1;k29,2,0,1,1;k3,0,0,1,1;k9,5,0,1,1;k29,5,0,1,1;l2;f3;"
                + "e0;e0;e1;e5;e0;e2;e5;e2;e3;e1;",
            "k6,1,0,1,1;k8,3,0,1,1;k6,5,0,1,1;l2;f0;e0;e2;e2;e0;e2;e0;e1;e2;",
            "k8,0,0,1,1;k9,2,0,1,1;k9,4,0,1,1;l2;f1;e2;e0;e1;e2;e1;",
            "k0,3,0,1,1;k0,2,0,1,1;k6,5,0,1,1;k1,2,0,1,1;k9,0,0,1,1;l2;f2;e3;e0;e1;e2;e0;e4;",
            "k5,0,0,1,1;k5,3,0,1,1;k1,5,0,1,1;l2;f2;e2;e0;e1;",
            "k26,4,0,1,1;k4,3,0,1,1;k2,1,0,1,1;k2,5,0,1,1;l2;f4;e1;e3;e0;e1;e2;",
            // Here the first time is as the second, but the third is another.
            "k15,3,0,1,1;k29,5,0,1,1;k26,2,0,1,1;k29,2,0,1,1;l2;f3;e0;e1;e3;e1;e3;e1;e3;"};
        for (int i = 0; i < texts.length; i++) {
            AsWithTheLast x = Texts.laid(texts[i]);
            CHECK.due("round() of " + texts[i], x.round(), rounds[i]);
            CHECK.due("count(4), nothing heard", x.count(4), 0);
            x.noRow();
            CHECK.due("round() of no row", x.round(), NONE);
        }
    }

    private static void roundOfWordsHeard() {
        CHECK.about("promise 17, words heard");
        AsWithTheLast x = Texts.laid("k0,1,0,0,1;k31,2,0,0,1;l2;e0;");
        for (int i = 0; i < 40; i++) {
            x.teach(1, 3);
        }
        CHECK.due("round()", x.round(), 1);
        AsWithTheLast y = Texts.laid("k5,0,0,1,1;k5,3,0,1,1;k1,5,0,1,1;l2;f2;e2;e0;e1;");
        Model m = new Model();
        Texts.write(y, "k5,0,0,1,1;k5,3,0,1,1;k1,5,0,1,1;l2;f2;e2;e0;e1;");
        for (char c : "k5,0,0,1,1;k5,3,0,1,1;k1,5,0,1,1;l2;f2;e2;e0;e1;".toCharArray()) {
            m.write(c);
        }
        m.lay();
        for (int i = 0; i < 45; i++) {
            y.teach(2, 5);
            m.teach(2, 5);
            CHECK.due("round() after " + (i + 1) + " words", y.round(), m.round());
        }
    }

    private static void rowIs(AsWithTheLast x, int lost, int... kinds) {
        CHECK.due("order(-1)", x.order(-1), lost);
        for (int place = 0; place < kinds.length; place++) {
            CHECK.due("order(" + place + ")", x.order(place), kinds[place]);
        }
        CHECK.due("order(" + kinds.length + ")", x.order(kinds.length), BAD);
    }

    private static void order() {
        CHECK.about("promise 18");
        AsWithTheLast x = new AsWithTheLast();
        // 0 goes well, 1 is spoilt, 1 goes well, 3 is spoilt, and with 2 he does 3, which spoils nothing.
        rowIs(x, 9, 0, 1, 1, 3, 2);
        CHECK.due("order(-2)", x.order(-2), BAD);
        CHECK.due("errand(1), the row as it was", x.errand(1), 1);
        x.tell(0);
        x.tell(0);
        CHECK.due("order(6) of seven", x.order(6) >= 0 ? 0 : 1, 0);
        CHECK.due("order(7) of seven", x.order(7), BAD);
        x.tell(0);
        CHECK.due("order(-1) of eight", x.order(-1), NO);
        CHECK.due("order(7) of eight", x.order(7), NO);
        CHECK.due("order(8) of eight", x.order(8), BAD);
        CHECK.due("order(-2) of eight", x.order(-2), BAD);
        x.noRow();
        rowIs(x, 0);
    }

    private static void orderOfSeveral() {
        CHECK.about("promise 18, several as good");
        rowIs(Texts.laid("k0,0,63,0,1;k1,1,63,0,1;k2,2,63,0,1;e2;e1;e0;e1;e2;e0;e1;"), 0, 0, 0, 1, 1, 1, 2, 2);
        rowIs(Texts.laid("k0,0,62,5,1;k1,1,61,5,1;f1;e0;e1;e0;e1;"), 5, 1, 1, 0, 0);
        rowIs(Texts.laid("k0,0,62,5,1;k1,1,61,5,1;f2;e1;e0;e0;e1;"), 10, 0, 0, 1, 1);
    }

    private static void orderOfWordsHeard() {
        CHECK.about("promise 18, from now on");
        AsWithTheLast x = Texts.laid("k0,0,62,5,1;k1,1,61,5,1;e0;e1;");
        rowIs(x, 5, 0, 1);
        x.teach(0, 1);
        rowIs(x, 5, 1, 0);
        AsWithTheLast y = Texts.laid("k0,0,62,5,1;k1,1,61,5,1;e0;e1;l3;f3;");
        rowIs(y, 10, 0, 1);
        y.teach(1, 1);
        rowIs(y, 5, 0, 1);
    }

    private static void bestIs(AsWithTheLast x, int word, int lost) {
        CHECK.due("best(0)", x.best(0), word);
        CHECK.due("best(1)", x.best(1), lost);
        CHECK.due("best(2)", x.best(2), BAD);
        CHECK.due("best(-1)", x.best(-1), BAD);
    }

    private static void best() {
        CHECK.about("promise 19");
        bestIs(new AsWithTheLast(), NONE, 22);
        bestIs(Texts.laid("k0,1,1,7,1;e0;"), 1, 0);
        bestIs(Texts.laid("k0,3,15,7,1;e0;"), 3, 0);
        bestIs(Texts.laid("k0,3,7,7,1;e0;"), 3, 0);
        bestIs(Texts.laid("k0,5,1,7,1;e0;"), 1, 0);
        bestIs(Texts.laid("k0,5,1,7,1;f1;e0;"), NONE, 0);
        bestIs(Texts.laid("k0,1,1,7,1;"), NONE, 0);
        bestIs(Texts.laid("k0,0,62,5,1;k1,1,61,9,1;l3;f2;e0;e1;e0;e1;"), 7, 5);
        bestIs(Texts.laid("k0,0,62,9,1;k1,1,61,9,1;l3;f2;e0;e1;e0;e1;"), 0, 9);
        // BEFORE goes by the word only with the second thing, when he has heard of the first.
        bestIs(Texts.laid("k0,0,62,9,1;k1,1,61,9,1;l1;f2;e0;e1;"), 1, 9);
        AsWithTheLast x = Texts.laid("k0,0,62,9,1;k1,1,61,9,1;l1;f2;e0;e1;");
        x.teach(1, 3);
        bestIs(x, 1, 9);
        x.teach(0, 0);
        bestIs(x, 0, 9);
        CHECK.due("count(4), not taught", x.count(4), 2);
        CHECK.due("count(9), not taught", x.count(9), 2);
    }
}
