/** The edges of what a text tells and of what is laid (promises 4 to 9), a case each. */
public final class LaidEdgesTest {
    private static final int BAD = -1, NO = -2, NONE = -4;
    private static final String PLAIN = "k0,0,0,0,1;";
    private static final int[] FAR = {Integer.MIN_VALUE, Integer.MAX_VALUE, -100, 100};
    private static final Check CHECK = new Check();

    public static void main(String[] args) {
        CHECK.each(
            LaidEdgesTest::marks, LaidEdgesTest::rightDoing, LaidEdgesTest::spoilers, LaidEdgesTest::worth,
            LaidEdgesTest::chance, LaidEdgesTest::sixKinds, LaidEdgesTest::kindsAreNumberedAsTold,
            LaidEdgesTest::sort, LaidEdgesTest::sortWithout, LaidEdgesTest::lastSortCounts, LaidEdgesTest::firstDoing,
            LaidEdgesTest::firstWithout, LaidEdgesTest::lastFirstCounts, LaidEdgesTest::kindToldAhead,
            LaidEdgesTest::tenErrands, LaidEdgesTest::layWithoutKinds, LaidEdgesTest::layWithFault,
            LaidEdgesTest::layOfOneKind, LaidEdgesTest::layOfSixKinds, LaidEdgesTest::layForgetsWords,
            LaidEdgesTest::layForgetsDays, LaidEdgesTest::layForgetsWhatWasSeen,
            LaidEdgesTest::layForgetsWhatCanBeUndone, LaidEdgesTest::layForgetsWhatWasKept,
            LaidEdgesTest::layTakesTheToldRow, LaidEdgesTest::textStays, LaidEdgesTest::kindOutside,
            LaidEdgesTest::kindWhatOutside, LaidEdgesTest::handedNeverAndOften, LaidEdgesTest::spoilersWithRight,
            LaidEdgesTest::errandBehindTheRow, LaidEdgesTest::errandBelow, LaidEdgesTest::wordOfNone,
            LaidEdgesTest::wordBehindTheWords, LaidEdgesTest::wordBelow, LaidEdgesTest::wordsAreNumberedFromTheLatest,
            LaidEdgesTest::unlikeInNoneAndInAll, LaidEdgesTest::unlikeOutside);
        CHECK.end();
    }

    private static void fault(String text, int place) {
        AsWithTheLast x = new AsWithTheLast();
        Texts.write(x, text);
        CHECK.due("fault() of " + text, x.fault(), place);
    }

    /** Of a kind: its number at this place may be as the first two, and none of the others. */
    private static void bounds(int what, int least, int most, int... outside) {
        for (int number : new int[] {least, most}) {
            String item = kindWith(what, number);
            fault(item, NONE);
            CHECK.due("kind(0, " + what + ") of " + item, Texts.laid(item).kind(0, what), number);
        }
        for (int number : outside) {
            fault(kindWith(what, number), 0);
            fault(PLAIN + kindWith(what, number), 11);
        }
    }

    private static String kindWith(int what, int number) {
        int[] numbers = {1, 1, 1, 1, 1};
        numbers[what] = number;
        return "k" + numbers[0] + "," + numbers[1] + "," + numbers[2] + "," + numbers[3] + "," + numbers[4] + ";";
    }

    private static void marks() {
        CHECK.about("4: MARKS M (0 to 31)");
        bounds(0, 0, 31, 32, 33, 63, 64, 99);
    }

    private static void rightDoing() {
        CHECK.about("4: R (a DOING, 0 to 5)");
        bounds(1, 0, 5, 6, 7, 10, 99);
    }

    private static void spoilers() {
        CHECK.about("4: DOINGS S (0 to 63)");
        bounds(2, 0, 63, 64, 65, 99);
    }

    private static void worth() {
        CHECK.about("4: V (0 to 20)");
        bounds(3, 0, 20, 21, 22, 99);
    }

    private static void chance() {
        CHECK.about("4: a CHANCE of C (1 to 9)");
        bounds(4, 1, 9, 0, 10, 11, 99);
        fault("k1,1,1,1,00;", 0);
    }

    private static void sixKinds() {
        CHECK.about("4: KINDS, 6 at most");
        fault(Texts.times(5, PLAIN), NONE);
        fault(Texts.times(6, PLAIN), NONE);
        fault(Texts.times(7, PLAIN), 66);
        fault(Texts.times(6, PLAIN) + "l1;e5;" + PLAIN, 72);
    }

    private static void kindsAreNumberedAsTold() {
        CHECK.about("4: KINDS are 0, 1, ..");
        AsWithTheLast x = Texts.laid("k10,0,0,0,1;k11,0,0,0,1;e1;k12,0,0,0,1;k13,0,0,0,1;k14,0,0,0,1;k15,0,0,0,1;e5;");
        for (int k = 0; k < 6; k++) {
            CHECK.due("kind(" + k + ", 0)", x.kind(k, 0), 10 + k);
        }
        CHECK.due("kind(6, 0)", x.kind(6, 0), BAD);
        CHECK.due("errand(0)", x.errand(0), 1);
        CHECK.due("errand(1)", x.errand(1), 5);
    }

    private static void sort() {
        CHECK.about("4: SORT L (0 to 3)");
        for (int sort = 0; sort <= 3; sort++) {
            fault("l" + sort + ";", NONE);
            CHECK.due("count(1)", Texts.laid(PLAIN + "l" + sort + ";").count(1), sort);
        }
        fault("l4;", 0);
        fault("l5;", 0);
        fault("l13;", 0);
        fault("l99;", 0);
    }

    private static void sortWithout() {
        CHECK.about("4: SORT, 0 without");
        AsWithTheLast x = Texts.laid(PLAIN + "l3;");
        Texts.write(x, PLAIN + "f5;");
        CHECK.due("lay()", x.lay(), 1);
        CHECK.due("count(1)", x.count(1), 0);
    }

    private static void lastSortCounts() {
        CHECK.about("4: SORT, of several such the last one counts");
        CHECK.due("count(1)", Texts.laid("l3;" + PLAIN + "l1;").count(1), 1);
        CHECK.due("count(1)", Texts.laid("l1;l0;" + PLAIN + "l3;f1;").count(1), 3);
        CHECK.due("count(1)", Texts.laid("l3;l2;l0;" + PLAIN).count(1), 0);
        fault("l4;l1;", 0);
        fault("l1;l4;", 3);
    }

    private static void firstDoing() {
        CHECK.about("4: FIRST he does D (0 to 5)");
        for (int first = 0; first <= 5; first++) {
            fault("f" + first + ";", NONE);
            CHECK.due("count(2)", Texts.laid(PLAIN + "f" + first + ";").count(2), first);
        }
        fault("f6;", 0);
        fault("f7;", 0);
        fault("f15;", 0);
        fault("f99;", 0);
    }

    private static void firstWithout() {
        CHECK.about("4: FIRST, 0 without");
        AsWithTheLast x = Texts.laid(PLAIN + "f5;");
        Texts.write(x, PLAIN + "l3;");
        CHECK.due("lay()", x.lay(), 1);
        CHECK.due("count(2)", x.count(2), 0);
        CHECK.due("does(0, 0)", x.does(0, 0), 0);
    }

    private static void lastFirstCounts() {
        CHECK.about("4: FIRST, of several such the last one counts");
        CHECK.due("count(2)", Texts.laid("f5;" + PLAIN + "f1;").count(2), 1);
        CHECK.due("count(2)", Texts.laid("f1;f0;" + PLAIN + "f5;l1;").count(2), 5);
        CHECK.due("count(2)", Texts.laid("f5;f2;f0;" + PLAIN).count(2), 0);
        fault("f6;f1;", 0);
        fault("f1;f6;", 3);
    }

    private static void kindToldAhead() {
        CHECK.about("4: an ERRAND, of KIND K (told ahead)");
        fault("e0;", 0);
        fault("e0;" + PLAIN, 0);
        fault(PLAIN + "e0;", NONE);
        fault(PLAIN + "e1;", 11);
        fault(PLAIN + "e1;" + PLAIN, 11);
        fault(PLAIN + PLAIN + "e1;", NONE);
        fault(Texts.times(6, PLAIN) + "e5;", NONE);
        fault(Texts.times(6, PLAIN) + "e6;", 66);
    }

    private static void tenErrands() {
        CHECK.about("4: ERRANDS, 10 at most");
        fault(PLAIN + Texts.times(9, "e0;"), NONE);
        fault(PLAIN + Texts.times(10, "e0;"), NONE);
        fault(PLAIN + Texts.times(11, "e0;"), 41);
        CHECK.due("count(3)", Texts.laid(PLAIN + Texts.times(10, "e0;")).count(3), 10);
        CHECK.due("count(3)", Texts.laid(PLAIN).count(3), 0);
    }

    private static void layWithoutKinds() {
        CHECK.about("5: of a KIND at least (NO else)");
        for (String text : new String[] {"", "l1;", "f3;", "l1;f3;l0;"}) {
            AsWithTheLast x = new AsWithTheLast();
            Texts.write(x, text);
            CHECK.due("fault()", x.fault(), NONE);
            CHECK.due("lay() of " + text, x.lay(), NO);
            CHECK.due("count(0), as it was", x.count(0), 4);
            CHECK.due("count(2), as it was", x.count(2), 0);
        }
    }

    private static void layWithFault() {
        CHECK.about("5: a TEXT without FAULT (NO else)");
        for (String text : new String[] {"x", PLAIN + "x", "l4;" + PLAIN, PLAIN + "e1;", PLAIN + "l", PLAIN + " "}) {
            AsWithTheLast x = new AsWithTheLast();
            Texts.write(x, text);
            CHECK.due("lay() of " + text, x.lay(), NO);
            CHECK.due("count(0), as it was", x.count(0), 4);
            CHECK.due("kind(0, 0), as it was", x.kind(0, 0), 1);
            CHECK.due("count(3), as it was", x.count(3), 5);
        }
    }

    private static void layOfOneKind() {
        CHECK.about("5: how many KINDS, one");
        AsWithTheLast x = new AsWithTheLast();
        Texts.write(x, PLAIN);
        CHECK.due("lay()", x.lay(), 1);
        CHECK.due("count(0)", x.count(0), 1);
        CHECK.due("count(3)", x.count(3), 0);
        CHECK.due("hand(1)", x.hand(1), BAD);
    }

    private static void layOfSixKinds() {
        CHECK.about("5: how many KINDS, six");
        AsWithTheLast x = new AsWithTheLast();
        Texts.write(x, Texts.times(6, PLAIN));
        CHECK.due("lay()", x.lay(), 6);
        CHECK.due("count(0)", x.count(0), 6);
        CHECK.due("hand(5)", x.hand(5), 0);
        CHECK.due("hand(6)", x.hand(6), BAD);
    }

    /** A new object that went on for a while, and then was laid anew. */
    private static AsWithTheLast laidAnew() {
        AsWithTheLast x = new AsWithTheLast();
        Texts.write(x, "k0,1,3,7,1;e0;e0;");
        x.hand(0);
        x.keep();
        x.hand(1);
        x.hand(0);
        x.keep();
        x.teach(1, 1);
        x.seen(0, 5);
        x.tell(0);
        x.lay();
        return x;
    }

    private static void layForgetsWords() {
        CHECK.about("5: no WORDS");
        AsWithTheLast x = laidAnew();
        CHECK.due("count(4)", x.count(4), 0);
        CHECK.due("word(0)", x.word(0), NONE);
        CHECK.due("does(0, 0)", x.does(0, 0), 0);
    }

    private static void layForgetsDays() {
        CHECK.about("5: no DAYS");
        AsWithTheLast x = laidAnew();
        CHECK.due("count(5)", x.count(5), 0);
        CHECK.due("count(6)", x.count(6), 0);
        CHECK.due("count(7)", x.count(7), 0);
        CHECK.due("kind(0, 5)", x.kind(0, 5), 0);
    }

    private static void layForgetsWhatWasSeen() {
        CHECK.about("5: nothing SEEN");
        AsWithTheLast x = laidAnew();
        CHECK.due("count(8)", x.count(8), 0);
        CHECK.due("fits()", x.fits(), 15);
        CHECK.due("forget()", x.forget(), 0);
    }

    private static void layForgetsWhatCanBeUndone() {
        CHECK.about("5: nothing UNDONE");
        AsWithTheLast x = laidAnew();
        CHECK.due("count(9)", x.count(9), 0);
        CHECK.due("undo()", x.undo(), NO);
    }

    private static void layForgetsWhatWasKept() {
        CHECK.about("5: nothing KEPT");
        AsWithTheLast x = laidAnew();
        CHECK.due("count(10)", x.count(10), 0);
        CHECK.due("back()", x.back(), NO);
        CHECK.due("keep()", x.keep(), 1);
    }

    private static void layTakesTheToldRow() {
        CHECK.about("5: THE ROW as told");
        AsWithTheLast x = laidAnew();
        CHECK.due("count(3)", x.count(3), 2);
        x.tell(0);
        x.noRow();
        CHECK.due("lay()", x.lay(), 1);
        CHECK.due("count(3), told again", x.count(3), 2);
        CHECK.due("errand(1)", x.errand(1), 0);
    }

    private static void textStays() {
        CHECK.about("5: THE TEXT stays");
        AsWithTheLast x = new AsWithTheLast();
        Texts.write(x, PLAIN);
        x.lay();
        CHECK.due("count(11)", x.count(11), 11);
        CHECK.due("write('l')", x.write('l'), 12);
        CHECK.due("fault()", x.fault(), 11);
        CHECK.due("lay()", x.lay(), NO);
        CHECK.due("count(11), when refused", x.count(11), 12);
    }

    private static void kindOutside() {
        CHECK.about("6: a KIND such as there is, BAD else");
        AsWithTheLast x = new AsWithTheLast();
        CHECK.due("kind(0, 0)", x.kind(0, 0), 1);
        CHECK.due("kind(3, 0)", x.kind(3, 0), 24);
        for (int what = 0; what < 6; what++) {
            CHECK.due("kind(-1, what)", x.kind(-1, what), BAD);
            CHECK.due("kind(4, what)", x.kind(4, what), BAD);
            CHECK.due("kind(5, what)", x.kind(5, what), BAD);
        }
        for (int far : FAR) {
            CHECK.due("kind(" + far + ", 0)", x.kind(far, 0), BAD);
        }
    }

    private static void kindWhatOutside() {
        CHECK.about("6: what (0 to 5), BAD else");
        AsWithTheLast x = new AsWithTheLast();
        CHECK.due("kind(0, 5)", x.kind(0, 5), 0);
        CHECK.due("kind(0, -1)", x.kind(0, -1), BAD);
        CHECK.due("kind(0, 6)", x.kind(0, 6), BAD);
        for (int far : FAR) {
            CHECK.due("kind(0, " + far + ")", x.kind(0, far), BAD);
        }
    }

    private static void handedNeverAndOften() {
        CHECK.about("6: how often it was handed him, never and often");
        AsWithTheLast x = Texts.laid(Texts.times(6, PLAIN));
        for (int k = 0; k < 6; k++) {
            CHECK.due("kind(" + k + ", 5)", x.kind(k, 5), 0);
        }
        for (int i = 0; i < 300; i++) {
            x.hand(5);
        }
        CHECK.due("kind(5, 5)", x.kind(5, 5), 300);
        CHECK.due("kind(4, 5)", x.kind(4, 5), 0);
        CHECK.due("kind(0, 5)", x.kind(0, 5), 0);
    }

    private static void spoilersWithRight() {
        CHECK.about("6: S as it is told, with R");
        for (int doing = 0; doing < 6; doing++) {
            AsWithTheLast x = Texts.laid("k0," + doing + ",63,1,1;k0," + doing + "," + (1 << doing) + ",1,1;");
            CHECK.due("kind(0, 2)", x.kind(0, 2), 63);
            CHECK.due("kind(1, 2)", x.kind(1, 2), 1 << doing);
        }
    }

    private static void errandBehindTheRow() {
        CHECK.about("7: NONE: it is not so long");
        AsWithTheLast x = new AsWithTheLast();
        CHECK.due("errand(4)", x.errand(4), 1);
        CHECK.due("errand(5)", x.errand(5), NONE);
        CHECK.due("errand(9)", x.errand(9), NONE);
        CHECK.due("errand(10)", x.errand(10), NONE);
        CHECK.due("errand(2^31 - 1)", x.errand(Integer.MAX_VALUE), NONE);
        AsWithTheLast full = Texts.laid(PLAIN + Texts.times(10, "e0;"));
        CHECK.due("errand(9) of ten", full.errand(9), 0);
        CHECK.due("errand(10) of ten", full.errand(10), NONE);
        full.noRow();
        CHECK.due("errand(0) of none", full.errand(0), NONE);
    }

    private static void errandBelow() {
        CHECK.about("7: BAD (below 0)");
        AsWithTheLast x = new AsWithTheLast();
        CHECK.due("errand(0)", x.errand(0), 0);
        CHECK.due("errand(-1)", x.errand(-1), BAD);
        CHECK.due("errand(-2^31)", x.errand(Integer.MIN_VALUE), BAD);
        x.noRow();
        CHECK.due("errand(-1) of none", x.errand(-1), BAD);
    }

    private static void wordOfNone() {
        CHECK.about("8: NONE, without WORDS");
        AsWithTheLast x = new AsWithTheLast();
        CHECK.due("word(0)", x.word(0), NONE);
        x.hand(0);
        CHECK.due("word(0), the day was GOOD", x.word(0), NONE);
    }

    private static void wordBehindTheWords() {
        CHECK.about("8: NONE, behind the WORDS");
        AsWithTheLast x = new AsWithTheLast();
        x.teach(3, 5);
        CHECK.due("word(0)", x.word(0), 23);
        CHECK.due("word(1)", x.word(1), NONE);
        CHECK.due("word(39)", x.word(39), NONE);
        CHECK.due("word(40)", x.word(40), NONE);
        CHECK.due("word(2^31 - 1)", x.word(Integer.MAX_VALUE), NONE);
    }

    private static void wordBelow() {
        CHECK.about("8: BAD (below 0)");
        AsWithTheLast x = new AsWithTheLast();
        CHECK.due("word(-1) of none", x.word(-1), BAD);
        x.teach(0, 0);
        x.teach(0, 1);
        CHECK.due("word(-1)", x.word(-1), BAD);
        CHECK.due("word(-2^31)", x.word(Integer.MIN_VALUE), BAD);
    }

    private static void wordsAreNumberedFromTheLatest() {
        CHECK.about("8: the latest 0: 6 times the KIND and the DOING");
        AsWithTheLast x = Texts.laid(Texts.times(6, PLAIN));
        for (int word = 0; word < 36; word++) {
            x.teach(word / 6, word % 6);
            CHECK.due("word(0)", x.word(0), word);
        }
        for (int w = 0; w < 36; w++) {
            CHECK.due("word(" + w + ")", x.word(w), 35 - w);
        }
        CHECK.due("word(36)", x.word(36), NONE);
    }

    private static void unlikeInNoneAndInAll() {
        CHECK.about("9: by how many MARKS, from none to all");
        AsWithTheLast x = Texts.laid("k0,0,0,0,1;k31,0,0,0,1;k16,0,0,0,1;k1,0,0,0,1;k0,5,0,0,1;k30,0,0,0,1;");
        CHECK.due("unlike(0, 0)", x.unlike(0, 0), 0);
        CHECK.due("unlike(0, 4), of the same marks", x.unlike(0, 4), 0);
        CHECK.due("unlike(0, 1)", x.unlike(0, 1), 5);
        CHECK.due("unlike(1, 0)", x.unlike(1, 0), 5);
        CHECK.due("unlike(0, 2), the highest mark", x.unlike(0, 2), 1);
        CHECK.due("unlike(0, 3), the lowest mark", x.unlike(0, 3), 1);
        CHECK.due("unlike(2, 3)", x.unlike(2, 3), 2);
        CHECK.due("unlike(3, 5)", x.unlike(3, 5), 5);
    }

    private static void unlikeOutside() {
        CHECK.about("9: two KINDS such as there are, BAD else");
        AsWithTheLast x = new AsWithTheLast();
        CHECK.due("unlike(3, 3)", x.unlike(3, 3), 0);
        for (int k : new int[] {-1, 4, 5, Integer.MIN_VALUE, Integer.MAX_VALUE}) {
            CHECK.due("unlike(" + k + ", 0)", x.unlike(k, 0), BAD);
            CHECK.due("unlike(0, " + k + ")", x.unlike(0, k), BAD);
            CHECK.due("unlike(" + k + ", " + k + ")", x.unlike(k, k), BAD);
        }
    }
}
