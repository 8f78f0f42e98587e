/** Promises 10 to 15: learners, days, teaching, undoing, the row. */
public final class DaysTest {
    private static final int BAD = -1, NO = -2, FULL = -3, NONE = -4;
    private static final int LAST = 0, BEFORE = 1, LIKEST = 2, SAME = 3;
    private static final Check CHECK = new Check();

    public static void main(String[] args) {
        does();
        doesTheLikest();
        doesWithFortyWords();
        hand();
        teach();
        undo();
        undoBringsForgottenWordsBack();
        tell();
        noRow();
        CHECK.end();
    }

    private static void doesAll(AsWithTheLast x, int k, int last, int before, int likest, int same) {
        CHECK.due("does(0, " + k + ")", x.does(LAST, k), last);
        CHECK.due("does(1, " + k + ")", x.does(BEFORE, k), before);
        CHECK.due("does(2, " + k + ")", x.does(LIKEST, k), likest);
        CHECK.due("does(3, " + k + ")", x.does(SAME, k), same);
    }

    private static void does() {
        CHECK.about("promise 10");
        AsWithTheLast x = Texts.laid("k1,0,62,3,2;k3,1,13,5,1;k6,2,3,8,1;k24,3,63,4,3;f5;");
        doesAll(x, 0, 5, 5, 5, 5);
        x.teach(1, 4);
        doesAll(x, 1, 4, 5, 4, 4);
        doesAll(x, 3, 4, 5, 4, 5);
        x.teach(0, 2);
        doesAll(x, 0, 2, 4, 2, 2);
        doesAll(x, 1, 2, 4, 4, 4);
        doesAll(x, 2, 2, 4, 4, 5);
        doesAll(x, 3, 2, 4, 2, 5);
        x.teach(1, 0);
        doesAll(x, 1, 0, 2, 0, 0);
        doesAll(x, 0, 0, 2, 2, 2);
        CHECK.due("does(4, 0)", x.does(4, 0), BAD);
        CHECK.due("does(-1, 0)", x.does(-1, 0), BAD);
        CHECK.due("does(0, 4)", x.does(0, 4), BAD);
        CHECK.due("does(0, -1)", x.does(0, -1), BAD);
        CHECK.due("count(4), as it was", x.count(4), 3);
    }

    private static void doesTheLikest() {
        CHECK.about("promise 10, several as like");
        AsWithTheLast x = Texts.laid("k0,0,0,0,1;k1,0,0,0,1;k2,0,0,0,1;k1,0,0,0,1;");
        x.teach(1, 3);
        x.teach(2, 4);
        CHECK.due("does(2, 0)", x.does(LIKEST, 0), 4);
        CHECK.due("does(2, 3), another kind of the same marks", x.does(LIKEST, 3), 3);
        x.teach(1, 5);
        CHECK.due("does(2, 0)", x.does(LIKEST, 0), 5);
        CHECK.due("does(2, 2)", x.does(LIKEST, 2), 4);
        x.teach(3, 2);
        CHECK.due("does(2, 1), the latest as like", x.does(LIKEST, 1), 2);
        x.teach(1, 1);
        CHECK.due("does(2, 3), the latest as like", x.does(LIKEST, 3), 1);
        CHECK.due("does(3, 3)", x.does(SAME, 3), 2);
    }

    private static void doesWithFortyWords() {
        CHECK.about("promise 10, forty words");
        AsWithTheLast x = Texts.laid("k0,0,0,0,1;k31,0,0,0,1;f2;");
        x.teach(1, 5);
        for (int i = 0; i < 39; i++) {
            x.teach(0, 1);
        }
        CHECK.due("does(3, 1)", x.does(SAME, 1), 5);
        CHECK.due("does(2, 1)", x.does(LIKEST, 1), 5);
        x.teach(0, 3);
        CHECK.due("does(3, 1)", x.does(SAME, 1), 2);
        CHECK.due("does(2, 1)", x.does(LIKEST, 1), 3);
        CHECK.due("does(0, 1)", x.does(LAST, 1), 3);
        CHECK.due("does(1, 1)", x.does(BEFORE, 1), 1);
    }

    private static void hand() {
        CHECK.about("promise 11");
        AsWithTheLast x = Texts.laid("k0,0,1,7,1;k1,1,4,9,1;k2,2,8,5,1;");
        CHECK.due("hand(0), R in S", x.hand(0), 0);
        CHECK.due("word(0), none when good", x.word(0), NONE);
        CHECK.due("hand(1), nothing", x.hand(1), 2);
        CHECK.due("word(0)", x.word(0), 7);
        CHECK.due("count(6), nothing lost", x.count(6), 0);
        CHECK.due("hand(1)", x.hand(1), 0);
        CHECK.due("hand(2), nothing", x.hand(2), 2);
        CHECK.due("word(0)", x.word(0), 14);
        CHECK.due("hand(1), spoilt", x.hand(1), 1);
        CHECK.due("count(5)", x.count(5), 5);
        CHECK.due("count(6)", x.count(6), 9);
        CHECK.due("count(7)", x.count(7), 2);
        CHECK.due("count(4)", x.count(4), 3);
        CHECK.due("count(9)", x.count(9), 5);
        CHECK.due("hand(3)", x.hand(3), BAD);
        CHECK.due("hand(-1)", x.hand(-1), BAD);
        CHECK.due("count(5)", x.count(5), 5);
        CHECK.due("count(9)", x.count(9), 5);
        for (int sort = 0; sort < 4; sort++) {
            AsWithTheLast y = Texts.laid("k0,0,62,7,1;k1,1,61,9,1;k31,2,59,5,1;l" + sort + ";f3;");
            y.teach(2, 4);
            y.teach(0, 0);
            y.teach(1, 1);
            int doing = y.does(sort, 0);
            CHECK.due("hand(0) of sort " + sort, y.hand(0), doing == 0 ? 0 : 1);
            CHECK.due("count(6)", y.count(6), doing == 0 ? 0 : 7);
        }
    }

    private static void teach() {
        CHECK.about("promise 12");
        AsWithTheLast x = new AsWithTheLast();
        CHECK.due("teach(3, 0), any doing", x.teach(3, 0), 1);
        CHECK.due("teach(0, 5)", x.teach(0, 5), 2);
        CHECK.due("teach(4, 0)", x.teach(4, 0), BAD);
        CHECK.due("teach(-1, 0)", x.teach(-1, 0), BAD);
        CHECK.due("teach(0, 6)", x.teach(0, 6), BAD);
        CHECK.due("teach(0, -1)", x.teach(0, -1), BAD);
        CHECK.due("count(4)", x.count(4), 2);
        CHECK.due("count(9)", x.count(9), 2);
        CHECK.due("count(5), no day", x.count(5), 0);
        for (int i = 3; i <= 45; i++) {
            CHECK.due("teach(1, 1)", x.teach(1, 1), Math.min(i, 40));
        }
    }

    private static void undo() {
        CHECK.about("promise 13");
        AsWithTheLast x = new AsWithTheLast();
        CHECK.due("undo()", x.undo(), NO);
        x.hand(0);
        x.hand(1);
        x.teach(2, 5);
        CHECK.due("undo(), teaching", x.undo(), 2);
        CHECK.due("word(0)", x.word(0), 7);
        CHECK.due("count(5)", x.count(5), 2);
        CHECK.due("undo(), a day", x.undo(), 1);
        CHECK.due("word(0)", x.word(0), NONE);
        CHECK.due("count(5)", x.count(5), 1);
        CHECK.due("count(6)", x.count(6), 0);
        CHECK.due("count(7)", x.count(7), 1);
        CHECK.due("kind(1, 5)", x.kind(1, 5), 0);
        CHECK.due("undo(), a good day", x.undo(), 0);
        CHECK.due("count(7)", x.count(7), 0);
        CHECK.due("kind(0, 5)", x.kind(0, 5), 0);
        CHECK.due("undo()", x.undo(), NO);
        for (int i = 1; i <= 11; i++) {
            x.teach(0, i % 6);
            CHECK.due("count(9)", x.count(9), Math.min(i, 8));
        }
        for (int left = 7; left >= 0; left--) {
            CHECK.due("undo()", x.undo(), left);
        }
        CHECK.due("undo()", x.undo(), NO);
        CHECK.due("count(4)", x.count(4), 3);
        CHECK.due("word(0)", x.word(0), 3);
        x.tell(0);
        x.seen(0, 0);
        x.teach(0, 0);
        x.undo();
        CHECK.due("count(3), no day", x.count(3), 6);
        CHECK.due("count(8), no day", x.count(8), 1);
    }

    private static void undoBringsForgottenWordsBack() {
        CHECK.about("promise 13, forty words");
        AsWithTheLast x = new AsWithTheLast();
        for (int i = 0; i < 40; i++) {
            x.teach(i == 0 ? 3 : 0, i == 0 ? 5 : 1);
        }
        for (int i = 0; i < 8; i++) {
            x.teach(1, 2);
        }
        CHECK.due("word(39)", x.word(39), 1);
        for (int i = 0; i < 8; i++) {
            x.undo();
        }
        CHECK.due("count(4)", x.count(4), 40);
        CHECK.due("word(0)", x.word(0), 1);
        CHECK.due("word(39)", x.word(39), 23);
        CHECK.due("does(3, 3)", x.does(SAME, 3), 5);
    }

    private static void tell() {
        CHECK.about("promise 14");
        AsWithTheLast x = new AsWithTheLast();
        CHECK.due("tell(4)", x.tell(4), BAD);
        CHECK.due("tell(-1)", x.tell(-1), BAD);
        for (int length = 6; length <= 10; length++) {
            CHECK.due("tell(3)", x.tell(3), length);
            CHECK.due("errand", x.errand(length - 1), 3);
        }
        CHECK.due("tell(3)", x.tell(3), FULL);
        CHECK.due("tell(4), of a full row", x.tell(4), BAD);
        CHECK.due("count(3)", x.count(3), 10);
        CHECK.due("count(9)", x.count(9), 0);
    }

    private static void noRow() {
        CHECK.about("promise 15");
        AsWithTheLast x = new AsWithTheLast();
        x.seen(0, 0);
        x.teach(0, 0);
        CHECK.due("noRow()", x.noRow(), 5);
        CHECK.due("count(3)", x.count(3), 0);
        CHECK.due("count(8)", x.count(8), 0);
        CHECK.due("count(4)", x.count(4), 1);
        CHECK.due("count(9)", x.count(9), 1);
        CHECK.due("noRow()", x.noRow(), 0);
        CHECK.due("tell(2)", x.tell(2), 1);
        CHECK.due("errand(0)", x.errand(0), 2);
    }
}
