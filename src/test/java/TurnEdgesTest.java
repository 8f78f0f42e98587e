/** The edges that promises 27 to 32, their terms and the 512 calls name, a case each. */
public final class TurnEdgesTest {
    private static final int BAD = -1, NO = -2, FULL = -3, NONE = -4;
    /** Of these two each is spoilt by whatever it should not have. */
    private static final String TWO = "k0,0,62,5,1;k1,1,61,9,1;";
    private static final int[] FAR = {Integer.MIN_VALUE, Integer.MAX_VALUE, -100, 100};
    private static final Check CHECK = new Check();

    public static void main(String[] args) {
        CHECK.each(
            TurnEdgesTest::turnsOfNoRounds, TurnEdgesTest::turnsOfOneAndTwo, TurnEdgesTest::turnsOutside,
            TurnEdgesTest::turnsTeachNone, TurnEdgesTest::turnsOfOneKindAndOfSix, TurnEdgesTest::turnsWithFortyWords,
            TurnEdgesTest::meanOfNoDays, TurnEdgesTest::meanOfThreeDays, TurnEdgesTest::meanInLowestTerms,
            TurnEdgesTest::meanOfNothingLost, TurnEdgesTest::meanOfGreatestChances, TurnEdgesTest::meanOutside,
            TurnEdgesTest::meanWithFortyWords, TurnEdgesTest::yearOfOneDay, TurnEdgesTest::yearOfSixtyDays,
            TurnEdgesTest::yearByLeastAndGreatest, TurnEdgesTest::yearOfOneKind, TurnEdgesTest::yearOutside,
            TurnEdgesTest::yearWithFortyWords, TurnEdgesTest::keepTwo, TurnEdgesTest::keepAllThatDaysChange,
            TurnEdgesTest::keepFortyWords, TurnEdgesTest::backNone, TurnEdgesTest::backLastFirst,
            TurnEdgesTest::backLeavesNothingUndone, TurnEdgesTest::countOfNone, TurnEdgesTest::countOfMost,
            TurnEdgesTest::countOutside, TurnEdgesTest::fiveHundredAndTwelveCalls);
        CHECK.end();
    }

    private static void teachTimes(AsWithTheLast x, int times, int k, int doing) {
        for (int i = 0; i < times; i++) {
            x.teach(k, doing);
        }
    }

    private static void turnsOfNoRounds() {
        CHECK.about("27: TURNS of n (0 to 2) rounds, none");
        CHECK.due("byTurns(0)", new AsWithTheLast().byTurns(0), 0);
        CHECK.due("byTurns(0)", Texts.laid("k0,0,62,20,1;l1;f1;").byTurns(0), 0);
    }

    private static void turnsOfOneAndTwo() {
        CHECK.about("27: TURNS of n (0 to 2) rounds, one and two");
        AsWithTheLast x = Texts.laid(TWO);
        CHECK.due("byTurns(1)", x.byTurns(1), 5);
        CHECK.due("byTurns(2)", x.byTurns(2), 10);
        AsWithTheLast same = Texts.laid(TWO + "l3;f2;");
        CHECK.due("byTurns(1)", same.byTurns(1), 5);
        CHECK.due("byTurns(2)", same.byTurns(2), 5);
        CHECK.due("count(4), nothing taught", same.count(4), 0);
        CHECK.due("count(5), no day", same.count(5), 0);
    }

    private static void turnsOutside() {
        CHECK.about("27: n is 0 to 2, BAD else");
        AsWithTheLast x = Texts.laid(TWO);
        for (int n : new int[] {-1, 3, 4, Integer.MIN_VALUE, Integer.MAX_VALUE}) {
            CHECK.due("byTurns(" + n + ")", x.byTurns(n), BAD);
        }
    }

    private static void turnsTeachNone() {
        CHECK.about("27: a WORD or none");
        AsWithTheLast last = Texts.laid("k0,0,2,6,1;f3;");
        last.teach(0, 1);
        CHECK.due("byTurns(1), a word, or he does 1", last.byTurns(1), 0);
        AsWithTheLast before = Texts.laid("k0,0,2,6,1;l1;f3;");
        before.teach(0, 3);
        before.teach(0, 1);
        CHECK.due("byTurns(1), none, or he does 1", before.byTurns(1), 0);
        before.teach(0, 1);
        CHECK.due("byTurns(1), he does 1 with a word and with none", before.byTurns(1), 6);
    }

    private static void turnsOfOneKindAndOfSix() {
        CHECK.about("27: a thing of some KIND, one and six");
        CHECK.due("byTurns(2) of one", Texts.laid("k0,5,31,20,1;").byTurns(2), 0);
        AsWithTheLast six = Texts.laid("k0,0,63,1,1;k0,1,63,2,1;k0,2,63,3,1;k0,3,63,4,1;k0,4,63,5,1;k0,5,63,6,1;");
        CHECK.due("byTurns(1) of six", six.byTurns(1), 5);
        CHECK.due("byTurns(2) of six", six.byTurns(2), 10);
    }

    private static void turnsWithFortyWords() {
        CHECK.about("27: of the last 40 the oldest gives way to what she TEACHES");
        AsWithTheLast x = Texts.laid(TWO + "l3;f5;");
        x.teach(1, 1);
        teachTimes(x, 38, 0, 3);
        CHECK.due("byTurns(1) of 39", x.byTurns(1), 0);
        x.teach(0, 3);
        CHECK.due("byTurns(1) of 40", x.byTurns(1), 5);
    }

    private static void meanIs(AsWithTheLast x, int n, int above, int below) {
        CHECK.due("mean(" + n + ", 0)", x.mean(n, 0), above);
        CHECK.due("mean(" + n + ", 1)", x.mean(n, 1), below);
    }

    private static void meanOfNoDays() {
        CHECK.about("28: MEAN of n (0 to 3) DAYS, none");
        meanIs(new AsWithTheLast(), 0, 0, 1);
        meanIs(Texts.laid("k0,1,63,20,9;"), 0, 0, 1);
    }

    private static void meanOfThreeDays() {
        CHECK.about("28: MEAN of n (0 to 3) DAYS, one, two, three");
        // BEFORE goes by FIRST for two days.
        AsWithTheLast x = Texts.laid("k0,1,63,20,9;l1;");
        meanIs(x, 1, 20, 1);
        meanIs(x, 2, 40, 1);
        meanIs(x, 3, 40, 1);
        meanIs(new AsWithTheLast(), 3, 439, 49);
    }

    private static void meanInLowestTerms() {
        CHECK.about("28: in lowest terms");
        meanIs(Texts.laid("k0,0,0,0,2;k0,1,1,6,2;"), 1, 3, 1);
        meanIs(Texts.laid("k0,0,0,0,6;k0,1,1,9,3;"), 1, 3, 1);
        meanIs(Texts.laid("k0,0,0,0,5;k0,1,1,3,4;"), 1, 4, 3);
        meanIs(Texts.laid("k0,0,0,0,8;k0,1,1,1,1;"), 1, 1, 9);
        meanIs(Texts.laid("k0,0,0,0,3;k0,1,1,7,4;"), 1, 4, 1);
        meanIs(Texts.laid("k0,0,0,0,4;k0,1,1,5,3;"), 1, 15, 7);
    }

    private static void meanOfNothingLost() {
        CHECK.about("28: in lowest terms, nothing lost");
        meanIs(Texts.laid("k0,0,63,20,9;"), 3, 0, 1);
        meanIs(Texts.laid("k0,1,63,0,9;k0,2,0,20,7;"), 1, 0, 1);
        meanIs(Texts.laid("k0,1,63,0,9;k0,2,0,20,7;"), 3, 0, 1);
    }

    private static void meanOfGreatestChances() {
        CHECK.about("28: a KIND by its CHANCE by all CHANCES, 9 of 54");
        AsWithTheLast six = Texts.laid("k0,0,63,20,9;k1,1,63,20,9;k2,2,63,20,9;k4,3,63,20,9;k8,4,63,20,9;"
                + "k16,5,63,20,9;");
        meanIs(six, 1, 50, 3);
        meanIs(six, 3, 50, 1);
        AsWithTheLast odd = Texts.laid("k0,0,0,0,9;k0,0,0,0,9;k0,0,0,0,9;k0,0,0,0,9;k0,0,0,0,8;k0,1,1,19,9;l1;");
        meanIs(odd, 1, 171, 53);
        // On the third day he goes by 1 only if both before it brought the last kind: 171 * (3 * 2809 - 81) of 53^3.
        meanIs(odd, 3, 1427166, 148877);
    }

    private static void meanOutside() {
        CHECK.about("28: n is 0 to 3, part 0 or 1, BAD else");
        AsWithTheLast x = Texts.laid(TWO);
        for (int n : new int[] {-1, 4, 5, Integer.MIN_VALUE, Integer.MAX_VALUE}) {
            CHECK.due("mean(" + n + ", 0)", x.mean(n, 0), BAD);
            CHECK.due("mean(" + n + ", 1)", x.mean(n, 1), BAD);
        }
        for (int part : new int[] {-1, 2, 3, Integer.MIN_VALUE, Integer.MAX_VALUE}) {
            CHECK.due("mean(0, " + part + ")", x.mean(0, part), BAD);
            CHECK.due("mean(1, " + part + ")", x.mean(1, part), BAD);
        }
    }

    private static void meanWithFortyWords() {
        CHECK.about("28: of the last 40 the oldest gives way while DAYS go on");
        AsWithTheLast x = Texts.laid("k0,0,62,5,1;k1,1,61,9,1;l3;f5;");
        x.teach(1, 1);
        teachTimes(x, 38, 0, 3);
        // Kind 0 is spoilt the first time alone, kind 1 never.
        meanIs(x, 2, 15, 4);
        x.teach(0, 3);
        // Now kind 1 is forgotten when kind 0 was spoilt: 5 + 0, 5 + 9, 0 + 5, 0 + 0 by 4.
        meanIs(x, 2, 6, 1);
    }

    private static void yearOfOneDay() {
        CHECK.about("29: A YEAR of n (1 to 60) DAYS, one");
        AsWithTheLast x = new AsWithTheLast();
        CHECK.due("year(0, 1, 0)", x.year(0, 1, 0), 0);
        CHECK.due("year(0, 1, 1)", x.year(0, 1, 1), 1);
        AsWithTheLast y = Texts.laid("k0,1,63,20,1;k1,0,63,20,1;");
        CHECK.due("year(0, 1, 0)", y.year(0, 1, 0), 20);
        CHECK.due("year(0, 1, 1)", y.year(0, 1, 1), 0);
    }

    private static void yearOfSixtyDays() {
        CHECK.about("29: A YEAR of n (1 to 60) DAYS, fifty-nine and sixty");
        AsWithTheLast x = Texts.laid("k0,1,63,20,1;l1;");
        CHECK.due("year(0, 59, 1), all but two", x.year(0, 59, 1), 57);
        CHECK.due("year(0, 60, 1), all but two", x.year(0, 60, 1), 58);
        CHECK.due("year(0, 60, 0)", x.year(0, 60, 0), 40);
        CHECK.due("year(5, 60, 0)", new AsWithTheLast().year(5, 60, 0), 236);
        CHECK.due("count(5), no day", x.count(5), 0);
    }

    private static void yearByLeastAndGreatest() {
        CHECK.about("29: by z (0 to 9999), and x times x of the greatest");
        for (int z : new int[] {0, 1, 5000, 9998, 9999}) {
            for (int kinds = 1; kinds <= 6; kinds++) {
                StringBuilder text = new StringBuilder();
                for (int k = 0; k < kinds; k++) {
                    text.append("k0,").append(k).append(",63,1,1;");
                }
                // LAST does right with what is as the thing before it, and at first with 0.
                AsWithTheLast x = Texts.laid(text.toString());
                int good = 0;
                for (int day = 0; day < 60; day++) {
                    good += drawn(z, day, kinds) == (day == 0 ? 0 : drawn(z, day - 1, kinds)) ? 1 : 0;
                    CHECK.due("year(" + z + ", " + (day + 1) + ", 1)", x.year(z, day + 1, 1), good);
                    CHECK.due("year(" + z + ", " + (day + 1) + ", 0)", x.year(z, day + 1, 0), day + 1 - good);
                }
            }
        }
    }

    private static int drawn(int z, int day, int kinds) {
        java.math.BigInteger x = java.math.BigInteger.valueOf(7919L * z + 6151L * day + 1);
        return x.multiply(x).mod(java.math.BigInteger.valueOf(65521)).intValue() / 8 % kinds;
    }

    private static void yearOfOneKind() {
        CHECK.about("29: modulo how many there are, one");
        AsWithTheLast x = Texts.laid("k0,1,63,7,1;");
        CHECK.due("year(77, 60, 0)", x.year(77, 60, 0), 7);
        CHECK.due("year(77, 60, 1)", x.year(77, 60, 1), 59);
    }

    private static void yearOutside() {
        CHECK.about("29: z is 0 to 9999, n 1 to 60, what 0 or 1, BAD else");
        AsWithTheLast x = Texts.laid("k0,1,63,7,1;");
        for (int what = 0; what < 2; what++) {
            for (int z : new int[] {-1, 10000, 10001, Integer.MIN_VALUE, Integer.MAX_VALUE}) {
                CHECK.due("year(" + z + ", 1, " + what + ")", x.year(z, 1, what), BAD);
            }
            for (int n : new int[] {0, -1, 61, 62, Integer.MIN_VALUE, Integer.MAX_VALUE}) {
                CHECK.due("year(0, " + n + ", " + what + ")", x.year(0, n, what), BAD);
            }
        }
        for (int what : new int[] {-1, 2, 3, Integer.MIN_VALUE, Integer.MAX_VALUE}) {
            CHECK.due("year(0, 1, " + what + ")", x.year(0, 1, what), BAD);
        }
        CHECK.due("year(9999, 60, 0)", x.year(9999, 60, 0), 7);
        CHECK.due("year(0, 1, 0)", x.year(0, 1, 0), 7);
    }

    private static void yearWithFortyWords() {
        CHECK.about("29: of the last 40 the oldest gives way while DAYS go on");
        AsWithTheLast x = Texts.laid("k0,0,62,5,1;k1,1,61,9,1;l3;f5;");
        x.teach(1, 1);
        teachTimes(x, 38, 0, 3);
        // By 0 the first kinds are 0 1.
        CHECK.due("drawn", 10 * drawn(0, 0, 2) + drawn(0, 1, 2), 1);
        CHECK.due("year(0, 2, 0) of 39", x.year(0, 2, 0), 5);
        x.teach(0, 3);
        CHECK.due("year(0, 2, 0) of 40", x.year(0, 2, 0), 14);
    }

    private static void keepTwo() {
        CHECK.about("30: KEPT, 2 at most: FULL");
        AsWithTheLast x = new AsWithTheLast();
        CHECK.due("keep()", x.keep(), 1);
        CHECK.due("keep()", x.keep(), 2);
        x.hand(1);
        CHECK.due("keep()", x.keep(), FULL);
        CHECK.due("keep()", x.keep(), FULL);
        CHECK.due("count(10)", x.count(10), 2);
        CHECK.due("back()", x.back(), 1);
        CHECK.due("count(5), the third was not kept", x.count(5), 0);
        CHECK.due("keep(), with room again", x.keep(), 2);
    }

    private static void keepAllThatDaysChange() {
        CHECK.about("30: WORDS heard, DAYS, what was lost (all that DAYS change)");
        AsWithTheLast x = Texts.laid(TWO + "e0;");
        x.hand(0);
        x.hand(1);
        x.teach(0, 4);
        x.keep();
        teachTimes(x, 42, 1, 3);
        x.hand(1);
        x.hand(0);
        x.tell(1);
        x.seen(0, 5);
        CHECK.due("back()", x.back(), 0);
        CHECK.due("count(4)", x.count(4), 2);
        CHECK.due("word(0)", x.word(0), 4);
        CHECK.due("word(1)", x.word(1), 7);
        CHECK.due("word(2)", x.word(2), NONE);
        CHECK.due("count(5)", x.count(5), 2);
        CHECK.due("count(6)", x.count(6), 9);
        CHECK.due("count(7)", x.count(7), 1);
        CHECK.due("kind(0, 5)", x.kind(0, 5), 1);
        CHECK.due("kind(1, 5)", x.kind(1, 5), 1);
        CHECK.due("count(3), no day changes it", x.count(3), 2);
        CHECK.due("count(8), no day changes it", x.count(8), 1);
    }

    private static void keepFortyWords() {
        CHECK.about("30: WORDS heard, forty of them");
        AsWithTheLast x = Texts.laid(TWO);
        x.teach(1, 5);
        teachTimes(x, 39, 0, 1);
        x.keep();
        teachTimes(x, 41, 1, 3);
        CHECK.due("word(39)", x.word(39), 9);
        x.back();
        CHECK.due("count(4)", x.count(4), 40);
        CHECK.due("word(0)", x.word(0), 1);
        CHECK.due("word(38)", x.word(38), 1);
        CHECK.due("word(39)", x.word(39), 11);
    }

    private static void backNone() {
        CHECK.about("31: NO, nothing is KEPT");
        AsWithTheLast x = Texts.laid(TWO);
        CHECK.due("back()", x.back(), NO);
        x.teach(0, 1);
        CHECK.due("back()", x.back(), NO);
        CHECK.due("count(9), what can be undone stays", x.count(9), 1);
        x.keep();
        CHECK.due("back()", x.back(), 0);
        CHECK.due("back()", x.back(), NO);
    }

    private static void backLastFirst() {
        CHECK.about("31: as KEPT last (it is KEPT no more then): how many are left");
        AsWithTheLast x = Texts.laid(TWO);
        x.teach(0, 1);
        x.keep();
        x.teach(0, 2);
        x.keep();
        x.teach(0, 3);
        CHECK.due("back()", x.back(), 1);
        CHECK.due("word(0)", x.word(0), 2);
        CHECK.due("count(10)", x.count(10), 1);
        x.teach(0, 5);
        CHECK.due("back()", x.back(), 0);
        CHECK.due("word(0)", x.word(0), 1);
        CHECK.due("count(10)", x.count(10), 0);
        CHECK.due("back()", x.back(), NO);
        CHECK.due("word(0), as it was", x.word(0), 1);
    }

    private static void backLeavesNothingUndone() {
        CHECK.about("31: nothing is UNDONE then");
        AsWithTheLast x = Texts.laid(TWO);
        teachTimes(x, 9, 0, 1);
        x.keep();
        x.hand(1);
        CHECK.due("count(9)", x.count(9), 8);
        x.back();
        CHECK.due("count(9)", x.count(9), 0);
        CHECK.due("undo()", x.undo(), NO);
        x.teach(0, 2);
        CHECK.due("undo()", x.undo(), 0);
        CHECK.due("count(4)", x.count(4), 9);
    }

    private static void countOfNone() {
        CHECK.about("32: how many, none");
        AsWithTheLast x = Texts.laid("k0,0,0,0,1;");
        x.wipe();
        int[] counts = {1, 0, 0, 0, 0, 0, 0, 0, 0, 0, 0, 0};
        for (int what = 0; what < 12; what++) {
            CHECK.due("count(" + what + ")", x.count(what), counts[what]);
        }
    }

    private static void countOfMost() {
        CHECK.about("32: how many, as many as can be");
        String text = "k0,0,63,20,1;k0,1,63,20,1;k0,2,63,0,1;k0,3,63,0,1;k0,4,63,0,1;k0,5,63,0,1;l3;f5;"
                + Texts.times(10, "e5;");
        AsWithTheLast x = Texts.laid(text);
        for (int i = 0; i < 45; i++) {
            x.hand(i % 2);
            x.teach(4, 4);
        }
        for (int i = 0; i < 9; i++) {
            x.seen(9, 5);
            x.keep();
        }
        for (int length = text.length(); length < 200; length++) {
            x.write('x');
        }
        // Both kinds are spoilt at first, and once more when their words have fallen out of the forty.
        int[] counts = {6, 3, 5, 10, 40, 45, 80, 41, 8, 8, 2, 200};
        for (int what = 0; what < 12; what++) {
            CHECK.due("count(" + what + ")", x.count(what), counts[what]);
        }
    }

    private static void countOutside() {
        CHECK.about("32: what is 0 to 11, BAD else");
        AsWithTheLast x = new AsWithTheLast();
        CHECK.due("count(0)", x.count(0), 4);
        CHECK.due("count(11)", x.count(11), 0);
        CHECK.due("count(-1)", x.count(-1), BAD);
        CHECK.due("count(12)", x.count(12), BAD);
        for (int far : FAR) {
            CHECK.due("count(" + far + ")", x.count(far), BAD);
        }
    }

    private static void fiveHundredAndTwelveCalls() {
        CHECK.about("An object is used for at most 512 calls: the last one answers too");
        AsWithTheLast days = new AsWithTheLast();
        AsWithTheLast words = new AsWithTheLast();
        AsWithTheLast letters = new AsWithTheLast();
        AsWithTheLast turns = new AsWithTheLast();
        for (int call = 1; call <= 511; call++) {
            CHECK.due("hand(0)", days.hand(0), 0);
            CHECK.due("teach(0, 1)", words.teach(0, 1), Math.min(call, 40));
            CHECK.due("write('k')", letters.write('k'), call <= 200 ? call : FULL);
            CHECK.due("order(-1)", turns.order(-1), 9);
        }
        CHECK.due("count(5)", days.count(5), 511);
        CHECK.due("undo()", words.undo(), 7);
        CHECK.due("wipe()", letters.wipe(), 200);
        CHECK.due("byTurns(2)", turns.byTurns(2), 8);
    }
}
