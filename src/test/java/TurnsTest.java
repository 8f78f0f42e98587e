/** Promises 27 to 32: turns, means, years, what is kept, counts. */
public final class TurnsTest {
    private static final int BAD = -1, NO = -2, FULL = -3;
    private static final Check CHECK = new Check();

    public static void main(String[] args) {
        byTurns();
        mean();
        meanFromNowOn();
        year();
        keepAndBack();
        keptWordsAndUndoing();
        count();
        CHECK.end();
    }

    private static void turnsAre(AsWithTheLast x, int one, int two) {
        CHECK.due("byTurns(0)", x.byTurns(0), 0);
        CHECK.due("byTurns(1)", x.byTurns(1), one);
        CHECK.due("byTurns(2)", x.byTurns(2), two);
    }

    private static void byTurns() {
        CHECK.about("promise 27");
        turnsAre(new AsWithTheLast(), 4, 8);
        turnsAre(Texts.laid("k0,1,1,7,1;"), 0, 0);
        turnsAre(Texts.laid("k0,0,62,5,1;k1,1,61,9,1;"), 5, 10);
        turnsAre(Texts.laid("k0,0,62,5,1;k1,1,61,9,1;l3;"), 0, 0);
        turnsAre(Texts.laid("k0,0,62,5,1;k1,1,61,9,1;l3;f2;"), 5, 5);
        turnsAre(Texts.laid("k0,0,0,20,1;k1,1,0,20,1;"), 0, 0);
        // What he hears of the first thing spares her a word: with two words of three kinds one thing is spoilt.
        turnsAre(Texts.laid("k0,0,62,5,1;k1,1,61,5,1;k2,2,59,5,1;l3;f5;"), 5, 5);
        // BEFORE: the first word that she teaches is not what he goes by.
        turnsAre(Texts.laid("k0,0,62,5,1;l1;f2;"), 5, 5);
        // Here no word is best: the last but one is 3, which spoils nothing; any word makes it 1, which does.
        AsWithTheLast x = Texts.laid("k0,0,2,6,1;l1;f3;");
        x.teach(0, 3);
        x.teach(0, 1);
        turnsAre(x, 0, 0);
        CHECK.due("byTurns(-1)", x.byTurns(-1), BAD);
        CHECK.due("byTurns(3)", x.byTurns(3), BAD);
        CHECK.due("count(4), nothing taught", x.count(4), 2);
        CHECK.due("count(5), no day", x.count(5), 0);
    }

    private static void meanIs(AsWithTheLast x, int n, int above, int below) {
        CHECK.due("mean(" + n + ", 0)", x.mean(n, 0), above);
        CHECK.due("mean(" + n + ", 1)", x.mean(n, 1), below);
    }

    private static void mean() {
        CHECK.about("promise 28");
        AsWithTheLast x = new AsWithTheLast();
        meanIs(x, 0, 0, 1);
        meanIs(x, 1, 25, 7);
        meanIs(x, 3, 439, 49);
        int[][] wrong = {{4, 0}, {-1, 0}, {1, 2}, {1, -1}};
        for (int[] w : wrong) {
            CHECK.due("mean(" + w[0] + ", " + w[1] + ")", x.mean(w[0], w[1]), BAD);
        }
        AsWithTheLast one = Texts.laid("k0,1,1,7,9;");
        meanIs(one, 1, 7, 1);
        meanIs(one, 3, 7, 1);
        AsWithTheLast none = Texts.laid("k0,1,0,7,9;k0,1,0,7,9;");
        meanIs(none, 3, 0, 1);
        // All six chances are 9: over 54 and its powers, in lowest terms.
        AsWithTheLast six = Texts.laid("k0,0,63,20,9;k1,1,63,20,9;k2,2,63,20,9;k4,3,63,20,9;k8,4,63,20,9;"
                + "k16,5,63,20,9;");
        meanIs(six, 1, 50, 3);
        meanIs(six, 2, 100, 3);
        meanIs(six, 3, 50, 1);
    }

    private static void meanFromNowOn() {
        CHECK.about("promise 28, from now on");
        AsWithTheLast x = Texts.laid("k0,0,62,6,1;k1,1,61,9,2;");
        meanIs(x, 1, 6, 1);
        meanIs(x, 2, 28, 3);
        x.teach(0, 1);
        meanIs(x, 1, 2, 1);
        CHECK.due("count(4)", x.count(4), 1);
        CHECK.due("count(5)", x.count(5), 0);
    }

    private static void year() {
        CHECK.about("promise 29");
        AsWithTheLast x = new AsWithTheLast();
        // By 0 the kinds are 0 1 3 0 0 3: done are 0, 0, 1, 3, 0, 0.
        int[] lost = {0, 5, 9, 12, 12, 16};
        int[] good = {1, 1, 1, 1, 2, 2};
        for (int n = 1; n <= 6; n++) {
            CHECK.due("year(0, " + n + ", 0)", x.year(0, n, 0), lost[n - 1]);
            CHECK.due("year(0, " + n + ", 1)", x.year(0, n, 1), good[n - 1]);
        }
        // By 9999 they are 0 0 2 3 2 2: done are 0, 0, 0, 2, 3, 2, and 3 does not spoil 2.
        CHECK.due("year(9999, 6, 0)", x.year(9999, 6, 0), 12);
        CHECK.due("year(9999, 6, 1)", x.year(9999, 6, 1), 3);
        CHECK.due("year(5, 60, 0)", x.year(5, 60, 0), 236);
        CHECK.due("year(5, 60, 1)", x.year(5, 60, 1), 9);
        int[][] wrong = {{-1, 1, 0}, {10000, 1, 0}, {0, 0, 0}, {0, 61, 0}, {0, -1, 0}, {0, 1, 2}, {0, 1, -1}};
        for (int[] w : wrong) {
            CHECK.due("year(" + w[0] + ", " + w[1] + ", " + w[2] + ")", x.year(w[0], w[1], w[2]), BAD);
        }
        CHECK.due("count(4), nothing heard", x.count(4), 0);
        CHECK.due("count(5), no day", x.count(5), 0);
        x.teach(0, 2);
        CHECK.due("year(0, 1, 0), from now on", x.year(0, 1, 0), 3);
        CHECK.due("year(0, 1, 1), from now on", x.year(0, 1, 1), 0);
    }

    private static void keepAndBack() {
        CHECK.about("promises 30 and 31");
        AsWithTheLast x = new AsWithTheLast();
        CHECK.due("back()", x.back(), NO);
        x.hand(0);
        x.hand(1);
        CHECK.due("keep()", x.keep(), 1);
        x.hand(2);
        CHECK.due("keep()", x.keep(), 2);
        CHECK.due("keep()", x.keep(), FULL);
        CHECK.due("count(10)", x.count(10), 2);
        x.hand(3);
        x.teach(3, 3);
        x.tell(2);
        x.seen(0, 4);
        CHECK.due("back()", x.back(), 1);
        CHECK.due("count(4)", x.count(4), 2);
        CHECK.due("count(5)", x.count(5), 3);
        CHECK.due("count(6)", x.count(6), 13);
        CHECK.due("count(7)", x.count(7), 1);
        CHECK.due("kind(2, 5)", x.kind(2, 5), 1);
        CHECK.due("kind(3, 5)", x.kind(3, 5), 0);
        CHECK.due("word(0)", x.word(0), 14);
        CHECK.due("count(9), nothing undone", x.count(9), 0);
        CHECK.due("undo()", x.undo(), NO);
        CHECK.due("count(3), the row stays", x.count(3), 6);
        CHECK.due("count(8), what is seen stays", x.count(8), 1);
        CHECK.due("back()", x.back(), 0);
        CHECK.due("count(5)", x.count(5), 2);
        CHECK.due("count(6)", x.count(6), 5);
        CHECK.due("kind(2, 5)", x.kind(2, 5), 0);
        CHECK.due("word(0)", x.word(0), 7);
        CHECK.due("back()", x.back(), NO);
        CHECK.due("keep()", x.keep(), 1);
    }

    private static void keptWordsAndUndoing() {
        CHECK.about("promises 30 and 31, words");
        AsWithTheLast x = new AsWithTheLast();
        x.teach(0, 1);
        x.teach(1, 2);
        CHECK.due("keep()", x.keep(), 1);
        CHECK.due("undo(), keeping undoes nothing", x.undo(), 1);
        CHECK.due("undo()", x.undo(), 0);
        for (int i = 0; i < 44; i++) {
            x.teach(3, 3);
        }
        CHECK.due("back()", x.back(), 0);
        CHECK.due("count(4)", x.count(4), 2);
        CHECK.due("word(0)", x.word(0), 8);
        CHECK.due("word(1)", x.word(1), 1);
        CHECK.due("does(2, 0)", x.does(2, 0), 1);
        x.teach(2, 2);
        CHECK.due("undo()", x.undo(), 0);
        CHECK.due("word(0)", x.word(0), 8);
    }

    private static void count() {
        CHECK.about("promise 32");
        AsWithTheLast x = Texts.laid("k0,0,62,5,1;k1,1,61,9,1;k2,2,4,9,1;l1;f4;e0;e1;e0;e0;");
        x.hand(0);
        x.hand(0);
        x.hand(0);
        x.hand(1);
        x.teach(2, 2);
        x.seen(1, 1);
        x.seen(1, 2);
        x.keep();
        x.write('x');
        int[] counts = {3, 1, 4, 4, 4, 4, 19, 1, 2, 5, 1, 54};
        for (int what = 0; what < counts.length; what++) {
            CHECK.due("count(" + what + ")", x.count(what), counts[what]);
        }
        CHECK.due("count(12)", x.count(12), BAD);
        CHECK.due("count(-1)", x.count(-1), BAD);
    }
}
