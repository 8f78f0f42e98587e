/** The edges that promises 10 to 15 and the terms of days name, a case each. */
public final class DayEdgesTest {
    private static final int BAD = -1, NO = -2, FULL = -3, NONE = -4;
    private static final int GOOD = 0, SPOILT = 1, NOTHING = 2;
    private static final int LAST = 0, BEFORE = 1, LIKEST = 2, SAME = 3;
    /** Of these three each is spoilt by whatever it should not have. */
    private static final String THREE = "k0,0,62,5,1;k1,1,61,9,1;k31,2,59,7,1;";
    private static final int[] FAR = {Integer.MIN_VALUE, Integer.MAX_VALUE, -100, 100};
    private static final Check CHECK = new Check();

    public static void main(String[] args) {
        CHECK.each(
            DayEdgesTest::lastWithoutWords, DayEdgesTest::beforeWithoutAndWithOneWord,
            DayEdgesTest::likestWithoutWords, DayEdgesTest::likestOfOneWord, DayEdgesTest::likestHasFewestMarks,
            DayEdgesTest::likestOfSeveralIsTheLatest, DayEdgesTest::sameWithoutWords,
            DayEdgesTest::sameWithoutWordsOfTheKind, DayEdgesTest::sameIsTheLatest, DayEdgesTest::doesOutside,
            DayEdgesTest::fortyWordsAreKept, DayEdgesTest::wordFortyOneOfTeaching, DayEdgesTest::wordFortyOneOfADay,
            DayEdgesTest::noWordFortyOneOfAGoodDay, DayEdgesTest::likestOfTheLastForty,
            DayEdgesTest::sameOfTheLastForty, DayEdgesTest::goodThoughItWouldBeSpoilt,
            DayEdgesTest::spoiltByTheLowestAndTheHighestDoing, DayEdgesTest::spoiltWhatIsWorthNothing,
            DayEdgesTest::worthMost, DayEdgesTest::nothingWhereNothingSpoils, DayEdgesTest::goodDayTellsNoWord,
            DayEdgesTest::otherDaysTellAWord, DayEdgesTest::handOutside, DayEdgesTest::taughtAnyWord,
            DayEdgesTest::teachAnswersFortyAtMost, DayEdgesTest::teachOutside, DayEdgesTest::undoneWithoutDays,
            DayEdgesTest::undoneLastEight, DayEdgesTest::undoneOfMoreThanEight, DayEdgesTest::undoneOfLessThanEight,
            DayEdgesTest::undoneAfterUndoing, DayEdgesTest::undoneGoodDay, DayEdgesTest::undoneDayOfWordFortyOne,
            DayEdgesTest::undoneNoLooking, DayEdgesTest::tellTen, DayEdgesTest::tellAfterNoRow,
            DayEdgesTest::tellOutside, DayEdgesTest::noRowOfNoneAndOfTen, DayEdgesTest::noRowForgetsWhatWasSeen);
        CHECK.end();
    }

    private static void teachTimes(AsWithTheLast x, int times, int k, int doing) {
        for (int i = 0; i < times; i++) {
            x.teach(k, doing);
        }
    }

    private static void lastWithoutWords() {
        CHECK.about("10: LAST; FIRST, where there is no such WORD");
        AsWithTheLast x = Texts.laid(THREE + "f5;");
        CHECK.due("does(0, 0)", x.does(LAST, 0), 5);
        x.teach(2, 4);
        CHECK.due("does(0, 0)", x.does(LAST, 0), 4);
        CHECK.due("does(0, 0), FIRST 0", Texts.laid(THREE).does(LAST, 0), 0);
    }

    private static void beforeWithoutAndWithOneWord() {
        CHECK.about("10: BEFORE; FIRST, where there is no last WORD but one");
        AsWithTheLast x = Texts.laid(THREE + "f5;");
        CHECK.due("does(1, 0)", x.does(BEFORE, 0), 5);
        x.teach(0, 4);
        CHECK.due("does(1, 0), one word", x.does(BEFORE, 0), 5);
        x.teach(0, 3);
        CHECK.due("does(1, 0), two words", x.does(BEFORE, 0), 4);
        x.undo();
        CHECK.due("does(1, 0), one word again", x.does(BEFORE, 0), 5);
    }

    private static void likestWithoutWords() {
        CHECK.about("10: LIKEST; FIRST, where there is no such WORD");
        AsWithTheLast x = Texts.laid(THREE + "f5;");
        for (int k = 0; k < 3; k++) {
            CHECK.due("does(2, " + k + ")", x.does(LIKEST, k), 5);
        }
    }

    private static void likestOfOneWord() {
        CHECK.about("10: LIKEST, of one WORD, otherwise by all MARKS");
        AsWithTheLast x = Texts.laid(THREE + "f5;");
        x.teach(2, 4);
        CHECK.due("does(2, 0), by all five marks", x.does(LIKEST, 0), 4);
        CHECK.due("does(2, 2), by no mark", x.does(LIKEST, 2), 4);
        AsWithTheLast six = Texts.laid(Texts.times(5, "k0,0,0,0,1;") + "k31,0,0,0,1;f5;");
        six.teach(5, 4);
        CHECK.due("does(2, 0), of the last kind of six", six.does(LIKEST, 0), 4);
        CHECK.due("does(2, 5), of the last kind of six", six.does(LIKEST, 5), 4);
    }

    private static void likestHasFewestMarks() {
        CHECK.about("10: LIKEST, fewest MARKS otherwise (one has it, the other one not)");
        AsWithTheLast x = Texts.laid("k3,0,0,0,1;k1,0,0,0,1;k15,0,0,0,1;k19,0,0,0,1;");
        x.teach(1, 4);
        x.teach(2, 5);
        CHECK.due("does(2, 0), one mark less rather than two more", x.does(LIKEST, 0), 4);
        x.teach(3, 2);
        x.teach(2, 5);
        CHECK.due("does(2, 0), one mark more", x.does(LIKEST, 0), 2);
    }

    private static void likestOfSeveralIsTheLatest() {
        CHECK.about("10: LIKEST, the latest of several");
        AsWithTheLast x = Texts.laid("k0,0,0,0,1;k1,0,0,0,1;k2,0,0,0,1;k31,0,0,0,1;");
        x.teach(2, 4);
        x.teach(1, 3);
        x.teach(3, 1);
        CHECK.due("does(2, 0), the later of two kinds", x.does(LIKEST, 0), 3);
        x.teach(2, 5);
        CHECK.due("does(2, 0), now the other one", x.does(LIKEST, 0), 5);
        x.teach(2, 2);
        CHECK.due("does(2, 0), the later of one kind", x.does(LIKEST, 0), 2);
    }

    private static void sameWithoutWords() {
        CHECK.about("10: SAME; FIRST, where there is no WORD");
        AsWithTheLast x = Texts.laid(THREE + "f5;");
        CHECK.due("does(3, 0)", x.does(SAME, 0), 5);
        CHECK.due("does(3, 2)", x.does(SAME, 2), 5);
    }

    private static void sameWithoutWordsOfTheKind() {
        CHECK.about("10: SAME; FIRST, where there is no WORD of KIND k");
        AsWithTheLast x = Texts.laid("k7,0,0,0,1;k7,0,0,0,1;f5;");
        x.teach(1, 2);
        CHECK.due("does(3, 0), a kind of the same marks is another one", x.does(SAME, 0), 5);
        CHECK.due("does(3, 1)", x.does(SAME, 1), 2);
    }

    private static void sameIsTheLatest() {
        CHECK.about("10: SAME, that of the latest WORD of KIND k");
        AsWithTheLast x = Texts.laid(THREE + "f5;");
        x.teach(0, 1);
        x.teach(0, 2);
        x.teach(1, 3);
        CHECK.due("does(3, 0)", x.does(SAME, 0), 2);
    }

    private static void doesOutside() {
        CHECK.about("10: a SORT and a KIND such as there are, BAD else");
        AsWithTheLast x = Texts.laid(THREE + "f5;");
        CHECK.due("does(3, 2)", x.does(SAME, 2), 5);
        int[][] wrong = {{-1, 0}, {4, 0}, {5, 0}, {0, -1}, {0, 3}, {3, 4}, {4, 3}, {-1, -1}};
        for (int[] w : wrong) {
            CHECK.due("does(" + w[0] + ", " + w[1] + ")", x.does(w[0], w[1]), BAD);
        }
        for (int far : FAR) {
            CHECK.due("does(" + far + ", 0)", x.does(far, 0), BAD);
            CHECK.due("does(0, " + far + ")", x.does(0, far), BAD);
        }
    }

    /** Word 17 first, then as many words 1 as make forty. */
    private static AsWithTheLast withFortyWords(String text) {
        AsWithTheLast x = Texts.laid(text);
        x.teach(2, 5);
        teachTimes(x, 39, 0, 1);
        return x;
    }

    private static void fortyWordsAreKept() {
        CHECK.about("2: the last 40 are kept, forty");
        AsWithTheLast x = withFortyWords(THREE);
        CHECK.due("count(4)", x.count(4), 40);
        CHECK.due("word(38)", x.word(38), 1);
        CHECK.due("word(39)", x.word(39), 17);
        CHECK.due("word(40)", x.word(40), NONE);
    }

    private static void wordFortyOneOfTeaching() {
        CHECK.about("2: the last 40 are kept, forty-one by TEACHING");
        AsWithTheLast x = withFortyWords(THREE);
        CHECK.due("teach(1, 3)", x.teach(1, 3), 40);
        CHECK.due("count(4)", x.count(4), 40);
        CHECK.due("word(0)", x.word(0), 9);
        CHECK.due("word(1)", x.word(1), 1);
        CHECK.due("word(39)", x.word(39), 1);
        CHECK.due("word(40)", x.word(40), NONE);
    }

    private static void wordFortyOneOfADay() {
        CHECK.about("2: the last 40 are kept, forty-one by a DAY");
        AsWithTheLast x = withFortyWords(THREE);
        CHECK.due("hand(0)", x.hand(0), SPOILT);
        CHECK.due("count(4)", x.count(4), 40);
        CHECK.due("word(0)", x.word(0), 0);
        CHECK.due("word(1)", x.word(1), 1);
        CHECK.due("word(39)", x.word(39), 1);
        CHECK.due("word(40)", x.word(40), NONE);
    }

    private static void noWordFortyOneOfAGoodDay() {
        CHECK.about("2: the last 40 are kept, and a GOOD DAY tells none");
        AsWithTheLast x = withFortyWords(THREE);
        CHECK.due("hand(1)", x.hand(1), GOOD);
        CHECK.due("count(4)", x.count(4), 40);
        CHECK.due("word(0)", x.word(0), 1);
        CHECK.due("word(39)", x.word(39), 17);
    }

    private static void likestOfTheLastForty() {
        CHECK.about("2: the last 40 are kept, LIKEST goes by them");
        AsWithTheLast x = withFortyWords(THREE + "f4;");
        CHECK.due("does(2, 2), the oldest of forty", x.does(LIKEST, 2), 5);
        x.teach(1, 3);
        CHECK.due("does(2, 2), the oldest is gone", x.does(LIKEST, 2), 3);
    }

    private static void sameOfTheLastForty() {
        CHECK.about("2: the last 40 are kept, SAME goes by them");
        AsWithTheLast x = withFortyWords(THREE + "f4;");
        CHECK.due("does(3, 2), the oldest of forty", x.does(SAME, 2), 5);
        x.teach(1, 3);
        CHECK.due("does(3, 2), the oldest is gone", x.does(SAME, 2), 4);
    }

    private static void goodThoughItWouldBeSpoilt() {
        CHECK.about("1: R in it does not");
        for (int doing = 0; doing < 6; doing++) {
            AsWithTheLast x = Texts.laid("k0," + doing + ",63,20,1;f" + doing + ";e0;");
            CHECK.due("hand(0)", x.hand(0), GOOD);
            CHECK.due("count(6), nothing lost", x.count(6), 0);
            CHECK.due("count(7)", x.count(7), 1);
            CHECK.due("run(0, 0, 1)", x.run(LAST, 0, 1), GOOD);
            CHECK.due("run(0, -1, 0)", x.run(LAST, -1, 0), 0);
        }
    }

    private static void spoiltByTheLowestAndTheHighestDoing() {
        CHECK.about("2: SPOILT, if S has it, each DOING by its bit");
        for (int doing = 0; doing < 6; doing++) {
            int right = (doing + 1) % 6;
            AsWithTheLast by = Texts.laid("k0," + right + "," + (1 << doing) + ",20,1;f" + doing + ";");
            CHECK.due("hand(0), by " + doing + " alone", by.hand(0), SPOILT);
            CHECK.due("count(6)", by.count(6), 20);
            AsWithTheLast not = Texts.laid("k0," + right + "," + (63 - (1 << doing)) + ",20,1;f" + doing + ";");
            CHECK.due("hand(0), by all but " + doing, not.hand(0), NOTHING);
            CHECK.due("count(6)", not.count(6), 0);
        }
    }

    private static void spoiltWhatIsWorthNothing() {
        CHECK.about("2: SPOILT, though worth 0");
        AsWithTheLast x = Texts.laid("k0,1,63,0,1;");
        CHECK.due("hand(0)", x.hand(0), SPOILT);
        CHECK.due("count(6)", x.count(6), 0);
        CHECK.due("count(7)", x.count(7), 0);
        CHECK.due("word(0)", x.word(0), 1);
    }

    private static void worthMost() {
        CHECK.about("2: SPOILT, V is lost, 20 every day");
        AsWithTheLast x = Texts.laid("k0,1,63,20,1;k0,2,63,20,1;");
        for (int day = 1; day <= 200; day++) {
            x.hand(day % 2);
            CHECK.due("count(6)", x.count(6), 20 * day);
        }
        CHECK.due("count(7)", x.count(7), 0);
    }

    private static void nothingWhereNothingSpoils() {
        CHECK.about("2: it comes to NOTHING, S has none");
        AsWithTheLast x = Texts.laid("k0,1,0,20,1;");
        CHECK.due("hand(0)", x.hand(0), NOTHING);
        CHECK.due("count(5)", x.count(5), 1);
        CHECK.due("count(6), nothing lost", x.count(6), 0);
        CHECK.due("count(7), not good", x.count(7), 0);
    }

    private static void goodDayTellsNoWord() {
        CHECK.about("2: if it is not GOOD, he hears the WORD: GOOD");
        AsWithTheLast x = Texts.laid(THREE);
        CHECK.due("hand(0)", x.hand(0), GOOD);
        CHECK.due("count(4)", x.count(4), 0);
        CHECK.due("count(5)", x.count(5), 1);
    }

    private static void otherDaysTellAWord() {
        CHECK.about("2: if it is not GOOD, he hears the WORD: SPOILT, NOTHING");
        AsWithTheLast x = Texts.laid("k0,5,1,5,1;k0,4,0,5,1;");
        CHECK.due("hand(0)", x.hand(0), SPOILT);
        CHECK.due("word(0)", x.word(0), 5);
        CHECK.due("hand(1)", x.hand(1), NOTHING);
        CHECK.due("word(0)", x.word(0), 10);
        CHECK.due("count(4)", x.count(4), 2);
    }

    private static void handOutside() {
        CHECK.about("11: a KIND such as there is, BAD else");
        AsWithTheLast x = Texts.laid(THREE);
        CHECK.due("hand(2)", x.hand(2), SPOILT);
        for (int k : new int[] {-1, 3, 4, 5, 6, Integer.MIN_VALUE, Integer.MAX_VALUE}) {
            CHECK.due("hand(" + k + ")", x.hand(k), BAD);
        }
        CHECK.due("count(5)", x.count(5), 1);
    }

    private static void taughtAnyWord() {
        CHECK.about("12: TAUGHT a WORD (any KIND, any DOING)");
        AsWithTheLast x = Texts.laid(THREE);
        for (int k = 0; k < 3; k++) {
            for (int doing = 0; doing < 6; doing++) {
                CHECK.due("teach(" + k + ", " + doing + ")", x.teach(k, doing), 6 * k + doing + 1);
                CHECK.due("word(0)", x.word(0), 6 * k + doing);
            }
        }
        CHECK.due("teach(2, 5), the same again", x.teach(2, 5), 19);
    }

    private static void teachAnswersFortyAtMost() {
        CHECK.about("12: how many are kept, 40 at most");
        AsWithTheLast x = Texts.laid(THREE);
        for (int word = 1; word <= 100; word++) {
            CHECK.due("teach(1, 1)", x.teach(1, 1), Math.min(word, 40));
        }
    }

    private static void teachOutside() {
        CHECK.about("12: a KIND and a DOING such as there are, BAD else");
        AsWithTheLast x = Texts.laid(THREE);
        int[][] wrong = {{-1, 0}, {3, 0}, {4, 5}, {0, -1}, {0, 6}, {2, 7}, {3, 6}, {-1, -1}};
        for (int[] w : wrong) {
            CHECK.due("teach(" + w[0] + ", " + w[1] + ")", x.teach(w[0], w[1]), BAD);
        }
        for (int far : FAR) {
            CHECK.due("teach(" + far + ", 0)", x.teach(far, 0), BAD);
            CHECK.due("teach(0, " + far + ")", x.teach(0, far), BAD);
        }
        CHECK.due("count(4)", x.count(4), 0);
        CHECK.due("teach(2, 5)", x.teach(2, 5), 1);
    }

    private static void undoneWithoutDays() {
        CHECK.about("13: NO, there is nothing to be UNDONE");
        AsWithTheLast x = Texts.laid(THREE);
        CHECK.due("undo()", x.undo(), NO);
        x.hand(1);
        CHECK.due("undo()", x.undo(), 0);
        CHECK.due("undo()", x.undo(), NO);
        CHECK.due("undo()", x.undo(), NO);
    }

    private static void undoneLastEight() {
        CHECK.about("13: the last 8 can be UNDONE, eight");
        AsWithTheLast x = Texts.laid(THREE);
        for (int i = 1; i <= 8; i++) {
            x.teach(0, i % 6);
            CHECK.due("count(9)", x.count(9), i);
        }
        for (int left = 7; left >= 0; left--) {
            CHECK.due("undo()", x.undo(), left);
            CHECK.due("count(9)", x.count(9), left);
            CHECK.due("count(4)", x.count(4), left);
        }
        CHECK.due("undo()", x.undo(), NO);
    }

    private static void undoneOfMoreThanEight() {
        CHECK.about("13: the last 8 can be UNDONE, nine and more");
        for (int more = 1; more <= 10; more++) {
            AsWithTheLast x = Texts.laid(THREE);
            for (int i = 0; i < 8 + more; i++) {
                x.teach(i % 3, i % 6);
            }
            CHECK.due("count(9)", x.count(9), 8);
            for (int left = 7; left >= 0; left--) {
                CHECK.due("undo()", x.undo(), left);
            }
            CHECK.due("undo()", x.undo(), NO);
            CHECK.due("count(4), the others stay", x.count(4), more);
            CHECK.due("word(0)", x.word(0), 6 * ((more - 1) % 3) + (more - 1) % 6);
        }
    }

    private static void undoneOfLessThanEight() {
        CHECK.about("13: the last 8 can be UNDONE, seven");
        AsWithTheLast x = Texts.laid(THREE);
        for (int i = 0; i < 7; i++) {
            x.hand(i % 3);
        }
        CHECK.due("count(9)", x.count(9), 7);
        for (int left = 6; left >= 0; left--) {
            CHECK.due("undo()", x.undo(), left);
            CHECK.due("count(5)", x.count(5), left);
        }
        CHECK.due("undo()", x.undo(), NO);
    }

    private static void undoneAfterUndoing() {
        CHECK.about("13: how many more can be, after undoing and going on");
        AsWithTheLast x = Texts.laid(THREE);
        teachTimes(x, 10, 0, 1);
        CHECK.due("undo()", x.undo(), 7);
        CHECK.due("undo()", x.undo(), 6);
        x.teach(1, 2);
        CHECK.due("count(9)", x.count(9), 7);
        x.hand(1);
        x.teach(1, 3);
        CHECK.due("count(9)", x.count(9), 8);
        CHECK.due("undo()", x.undo(), 7);
        CHECK.due("word(0)", x.word(0), 7);
        CHECK.due("undo()", x.undo(), 6);
        CHECK.due("word(0)", x.word(0), 8);
        CHECK.due("undo()", x.undo(), 5);
        CHECK.due("word(0)", x.word(0), 1);
    }

    private static void undoneGoodDay() {
        CHECK.about("13: UNDONE is a DAY that told no WORD");
        AsWithTheLast x = Texts.laid(THREE);
        x.teach(0, 0);
        x.hand(0);
        CHECK.due("count(7)", x.count(7), 1);
        CHECK.due("undo()", x.undo(), 1);
        CHECK.due("count(4), the word stays", x.count(4), 1);
        CHECK.due("count(5)", x.count(5), 0);
        CHECK.due("count(7)", x.count(7), 0);
        CHECK.due("kind(0, 5)", x.kind(0, 5), 0);
    }

    private static void undoneDayOfWordFortyOne() {
        CHECK.about("13: UNDONE is a DAY that the oldest WORD gave way to");
        AsWithTheLast x = withFortyWords(THREE);
        x.hand(0);
        CHECK.due("word(39)", x.word(39), 1);
        x.undo();
        CHECK.due("count(4)", x.count(4), 40);
        CHECK.due("word(0)", x.word(0), 1);
        CHECK.due("word(39)", x.word(39), 17);
        CHECK.due("count(6)", x.count(6), 0);
    }

    private static void undoneNoLooking() {
        CHECK.about("13: UNDONE is a DAY or TEACHING, nothing else");
        AsWithTheLast x = Texts.laid(THREE);
        x.tell(0);
        x.seen(0, 0);
        x.keep();
        x.write('x');
        x.run(0, -1, 0);
        x.forget();
        x.noRow();
        CHECK.due("count(9)", x.count(9), 0);
        CHECK.due("undo()", x.undo(), NO);
        x.teach(0, 1);
        x.tell(1);
        x.seen(0, 3);
        CHECK.due("undo()", x.undo(), 0);
        CHECK.due("count(3), the row stays", x.count(3), 1);
        CHECK.due("count(8), what is seen stays", x.count(8), 1);
        CHECK.due("count(10), what is kept stays", x.count(10), 1);
        CHECK.due("count(11), the text stays", x.count(11), THREE.length() + 1);
    }

    private static void tellTen() {
        CHECK.about("14: ERRANDS, 10 at most: FULL");
        AsWithTheLast x = Texts.laid(THREE);
        for (int length = 1; length <= 10; length++) {
            CHECK.due("tell(2)", x.tell(2), length);
        }
        CHECK.due("tell(2)", x.tell(2), FULL);
        CHECK.due("tell(0)", x.tell(0), FULL);
        CHECK.due("count(3)", x.count(3), 10);
        CHECK.due("errand(10)", x.errand(10), NONE);
        CHECK.due("tell(0), ten as told", Texts.laid(THREE + Texts.times(10, "e1;")).tell(0), FULL);
        CHECK.due("tell(0), nine as told", Texts.laid(THREE + Texts.times(9, "e1;")).tell(0), 10);
    }

    private static void tellAfterNoRow() {
        CHECK.about("14: how long it is, after a full row was taken away");
        AsWithTheLast x = Texts.laid(THREE + Texts.times(10, "e1;"));
        x.noRow();
        CHECK.due("tell(2)", x.tell(2), 1);
        CHECK.due("errand(0)", x.errand(0), 2);
        CHECK.due("errand(1)", x.errand(1), NONE);
    }

    private static void tellOutside() {
        CHECK.about("14: a KIND such as there is, BAD else");
        AsWithTheLast x = Texts.laid(THREE);
        for (int k : new int[] {-1, 3, 4, 5, 6, Integer.MIN_VALUE, Integer.MAX_VALUE}) {
            CHECK.due("tell(" + k + ")", x.tell(k), BAD);
        }
        CHECK.due("count(3)", x.count(3), 0);
        CHECK.due("tell(2)", x.tell(2), 1);
        CHECK.due("tell(0)", x.tell(0), 2);
    }

    private static void noRowOfNoneAndOfTen() {
        CHECK.about("15: how long it was, none and ten");
        AsWithTheLast x = Texts.laid(THREE);
        CHECK.due("noRow()", x.noRow(), 0);
        for (int i = 0; i < 10; i++) {
            x.tell(1);
        }
        CHECK.due("noRow()", x.noRow(), 10);
        CHECK.due("count(3)", x.count(3), 0);
        CHECK.due("errand(0)", x.errand(0), NONE);
        CHECK.due("noRow()", x.noRow(), 0);
    }

    private static void noRowForgetsWhatWasSeen() {
        CHECK.about("15: nothing SEEN");
        AsWithTheLast x = Texts.laid(THREE + "e0;");
        x.seen(0, 5);
        CHECK.due("fits()", x.fits(), 0);
        x.noRow();
        CHECK.due("count(8)", x.count(8), 0);
        CHECK.due("fits()", x.fits(), 15);
        x.tell(0);
        CHECK.due("fits(), of a row anew", x.fits(), 15);
        CHECK.due("forget()", x.forget(), 0);
    }
}
