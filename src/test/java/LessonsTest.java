/** Promises 1 to 9: a new object, the text, kinds, errands, words. */
public final class LessonsTest {
    private static final int BAD = -1, NO = -2, FULL = -3, NONE = -4;
    private static final String PLAIN = "k0,0,0,0,1;";
    private static final Check CHECK = new Check();

    public static void main(String[] args) {
        newObject();
        write();
        wipe();
        faultOfGoodTexts();
        faultOfKinds();
        faultOfOthers();
        lay();
        layTakesAllBack();
        kind();
        errand();
        word();
        unlike();
        CHECK.end();
    }

    private static void newObject() {
        CHECK.about("promise 1");
        AsWithTheLast x = new AsWithTheLast();
        int[] counts = {4, 0, 0, 5, 0, 0, 0, 0, 0, 0, 0, 0};
        for (int what = 0; what < counts.length; what++) {
            CHECK.due("count(" + what + ")", x.count(what), counts[what]);
        }
        int[][] kinds = {{1, 0, 62, 3, 2, 0}, {3, 1, 13, 5, 1, 0}, {6, 2, 3, 8, 1, 0}, {24, 3, 63, 4, 3, 0}};
        for (int k = 0; k < 4; k++) {
            for (int what = 0; what < 6; what++) {
                CHECK.due("kind(" + k + ", " + what + ")", x.kind(k, what), kinds[k][what]);
            }
        }
        int[] errands = {0, 1, 2, 3, 1};
        for (int place = 0; place < 5; place++) {
            CHECK.due("errand(" + place + ")", x.errand(place), errands[place]);
        }
        CHECK.due("undo()", x.undo(), NO);
        CHECK.due("back()", x.back(), NO);
        CHECK.due("lay() of no text", x.lay(), NO);
    }

    private static void write() {
        CHECK.about("promise 2");
        AsWithTheLast x = new AsWithTheLast();
        CHECK.due("write(31)", x.write(31), BAD);
        CHECK.due("write(127)", x.write(127), BAD);
        CHECK.due("write(-1)", x.write(-1), BAD);
        CHECK.due("write(2^32 less)", x.write(Integer.MIN_VALUE), BAD);
        CHECK.due("count(11)", x.count(11), 0);
        CHECK.due("write(32)", x.write(32), 1);
        CHECK.due("write(126)", x.write(126), 2);
        for (int length = 3; length <= 200; length++) {
            CHECK.due("write('k')", x.write('k'), length);
        }
        CHECK.due("write('k')", x.write('k'), FULL);
        CHECK.due("write(31) of a full text", x.write(31), BAD);
        CHECK.due("count(11)", x.count(11), 200);
    }

    private static void wipe() {
        CHECK.about("promise 3");
        AsWithTheLast x = new AsWithTheLast();
        CHECK.due("wipe()", x.wipe(), 0);
        Texts.write(x, "k1;");
        CHECK.due("fault()", x.fault(), 0);
        CHECK.due("wipe()", x.wipe(), 3);
        CHECK.due("count(11)", x.count(11), 0);
        CHECK.due("fault()", x.fault(), NONE);
        CHECK.due("wipe()", x.wipe(), 0);
        CHECK.due("count(0) of what is laid", x.count(0), 4);
    }

    private static void faultIs(String text, int place) {
        AsWithTheLast x = new AsWithTheLast();
        Texts.write(x, text);
        CHECK.due("fault() of " + text, x.fault(), place);
        CHECK.due("count(11)", x.count(11), text.length());
    }

    private static void faultOfGoodTexts() {
        CHECK.about("promise 4");
        faultIs("", NONE);
        faultIs(PLAIN, NONE);
        faultIs("k31,5,63,20,9;", NONE);
        faultIs("k00,00,00,00,01;l03;f05;e00;", NONE);
        faultIs("l0;l3;f0;f5;", NONE);
        faultIs("l3;l1;" + PLAIN + "f2;e0;f1;" + PLAIN + "e1;", NONE);
        faultIs(Texts.times(6, PLAIN) + Texts.times(10, "e5;"), NONE);
        faultIs("k31,5,63,20,9;" + Texts.times(93, "l1;").substring(0, 186), NONE);
    }

    private static void faultOfKinds() {
        CHECK.about("promise 4, kinds");
        String[] wrong = {"k32,0,0,0,1;", "k0,6,0,0,1;", "k0,0,64,0,1;", "k0,0,0,21,1;", "k0,0,0,0,0;", "k0,0,0,0,10;",
            "k0,0,0,0;", "k0,0,0,0,1,1;", "k0,0,0,0,1", "k0,0,0,0,", "k", "k;", "k0;", "k,0,0,0,1;", "k0,,0,0,1;",
            "k0,0,0,0,;", "k000,0,0,0,1;", "k0,0,001,0,1;", "k0,0,0,0,001;", "k-1,0,0,0,1;", "k+1,0,0,0,1;",
            "k 1,0,0,0,1;", "k0,0,0,0 1;", "K0,0,0,0,1;", "k0;0;0;0;1;", "k0,0,0,0,1,", "kk0,0,0,0,1;"};
        for (String item : wrong) {
            faultIs(item, 0);
            faultIs(PLAIN + item, 11);
            faultIs("l1;" + item + PLAIN + ";", 3);
        }
        faultIs(Texts.times(7, PLAIN), 66);
        faultIs(Texts.times(6, PLAIN) + "l1;" + PLAIN, 69);
        faultIs("k0,0,0,0,1;l3;k0,0,0,0,1;k0,0,0,0,0;k99,0,0,0,0;", 25);
    }

    private static void faultOfOthers() {
        CHECK.about("promise 4, learner and errands");
        String[] wrong = {"l4;", "f6;", "e1;", "e2;", "e99;", "l10;", "f10;", "l;", "f;", "e;", "l1", "f1", "e0", "l1,",
            "l1,2;", "f0,0;", "e0,0;", "l001;", "e000;", ";", " ", "L1;", "F1;", "E0;", "m0;", "0;", ",", "l 1;",
            "j1;"};
        for (String item : wrong) {
            faultIs(PLAIN + item, 11);
            faultIs(PLAIN + "l2;" + item + "e0;", 14);
        }
        faultIs("e0;" + PLAIN, 0);
        faultIs(PLAIN + "e1;" + PLAIN, 11);
        faultIs(PLAIN + Texts.times(11, "e0;"), 41);
        faultIs(Texts.times(66, "l1;") + "l1", 198);
        faultIs(PLAIN + ";", 11);
    }

    private static void lay() {
        CHECK.about("promise 5");
        AsWithTheLast x = new AsWithTheLast();
        for (String text : new String[] {"", "l1;f2;", PLAIN + "e1;", PLAIN + "k", ";"}) {
            Texts.write(x, text);
            x.teach(0, 0);
            int words = x.count(4);
            CHECK.due("lay() of " + text, x.lay(), NO);
            CHECK.due("count(0)", x.count(0), 4);
            CHECK.due("count(1)", x.count(1), 0);
            CHECK.due("count(2)", x.count(2), 0);
            CHECK.due("count(3)", x.count(3), 5);
            CHECK.due("count(4)", x.count(4), words);
        }
        Texts.write(x, "l3;l2;k7,1,5,9,2;f4;k31,5,63,20,9;f3;e1;");
        CHECK.due("lay()", x.lay(), 2);
        CHECK.due("count(1)", x.count(1), 2);
        CHECK.due("count(2)", x.count(2), 3);
        CHECK.due("count(3)", x.count(3), 1);
        CHECK.due("count(11)", x.count(11), 40);
        CHECK.due("kind(0, 0)", x.kind(0, 0), 7);
        CHECK.due("kind(1, 4)", x.kind(1, 4), 9);
        CHECK.due("kind(2, 0)", x.kind(2, 0), BAD);
        CHECK.due("errand(0)", x.errand(0), 1);
        Texts.write(x, PLAIN);
        CHECK.due("lay()", x.lay(), 1);
        CHECK.due("count(1), without", x.count(1), 0);
        CHECK.due("count(2), without", x.count(2), 0);
        CHECK.due("count(3), without", x.count(3), 0);
    }

    private static void layTakesAllBack() {
        CHECK.about("promise 5, nothing of before");
        AsWithTheLast x = new AsWithTheLast();
        Texts.write(x, "k0,1,1,7,1;e0;e0;");
        x.hand(1);
        x.hand(0);
        x.hand(0);
        x.teach(0, 3);
        x.tell(2);
        x.seen(0, 0);
        x.keep();
        CHECK.due("lay()", x.lay(), 1);
        int[] counts = {1, 0, 0, 2, 0, 0, 0, 0, 0, 0, 0, 17};
        for (int what = 0; what < counts.length; what++) {
            CHECK.due("count(" + what + ")", x.count(what), counts[what]);
        }
        CHECK.due("kind(0, 5)", x.kind(0, 5), 0);
        CHECK.due("word(0)", x.word(0), NONE);
        CHECK.due("undo()", x.undo(), NO);
        CHECK.due("back()", x.back(), NO);
        CHECK.due("forget()", x.forget(), 0);
        CHECK.due("lay() again", x.lay(), 1);
    }

    private static void kind() {
        CHECK.about("promise 6");
        AsWithTheLast x = Texts.laid("k9,3,8,17,6;k0,0,1,0,1;e0;e1;");
        int[] told = {9, 3, 8, 17, 6, 0};
        for (int what = 0; what < 6; what++) {
            CHECK.due("kind(0, " + what + ")", x.kind(0, what), told[what]);
        }
        CHECK.due("kind(1, 2), R in it", x.kind(1, 2), 1);
        x.hand(1);
        x.hand(1);
        x.hand(0);
        CHECK.due("kind(0, 5)", x.kind(0, 5), 1);
        CHECK.due("kind(1, 5)", x.kind(1, 5), 2);
        x.teach(0, 0);
        x.run(0, -1, 0);
        CHECK.due("kind(0, 5)", x.kind(0, 5), 1);
        CHECK.due("kind(2, 0)", x.kind(2, 0), BAD);
        CHECK.due("kind(-1, 0)", x.kind(-1, 0), BAD);
        CHECK.due("kind(0, 6)", x.kind(0, 6), BAD);
        CHECK.due("kind(0, -1)", x.kind(0, -1), BAD);
    }

    private static void errand() {
        CHECK.about("promise 7");
        AsWithTheLast x = Texts.laid(PLAIN + PLAIN + "e1;e0;");
        CHECK.due("errand(0)", x.errand(0), 1);
        CHECK.due("errand(1)", x.errand(1), 0);
        CHECK.due("errand(2)", x.errand(2), NONE);
        CHECK.due("errand(99)", x.errand(99), NONE);
        CHECK.due("errand(-1)", x.errand(-1), BAD);
        x.tell(1);
        CHECK.due("errand(2)", x.errand(2), 1);
        x.noRow();
        CHECK.due("errand(0)", x.errand(0), NONE);
    }

    private static void word() {
        CHECK.about("promise 8");
        AsWithTheLast x = new AsWithTheLast();
        CHECK.due("word(0)", x.word(0), NONE);
        CHECK.due("word(-1)", x.word(-1), BAD);
        x.teach(3, 5);
        x.hand(1);
        CHECK.due("word(0), of the day", x.word(0), 7);
        CHECK.due("word(1)", x.word(1), 23);
        CHECK.due("word(2)", x.word(2), NONE);
        for (int i = 0; i < 39; i++) {
            x.teach(2, 4);
        }
        CHECK.due("word(38)", x.word(38), 16);
        CHECK.due("word(39)", x.word(39), 7);
        CHECK.due("word(40)", x.word(40), NONE);
    }

    private static void unlike() {
        CHECK.about("promise 9");
        AsWithTheLast x = Texts.laid("k0,0,0,0,1;k31,0,0,0,1;k21,0,0,0,1;");
        int[][] apart = {{0, 5, 3}, {5, 0, 2}, {3, 2, 0}};
        for (int k = 0; k < 3; k++) {
            for (int j = 0; j < 3; j++) {
                CHECK.due("unlike(" + k + ", " + j + ")", x.unlike(k, j), apart[k][j]);
            }
        }
        CHECK.due("unlike(0, 3)", x.unlike(0, 3), BAD);
        CHECK.due("unlike(3, 0)", x.unlike(3, 0), BAD);
        CHECK.due("unlike(-1, 0)", x.unlike(-1, 0), BAD);
        CHECK.due("unlike(0, -1)", x.unlike(0, -1), BAD);
    }
}
