/** The edges that promises 1 to 9 name, a case each: letters, items, what is laid, kinds, errands, words. */
public final class TextEdgesTest {
    private static final int BAD = -1, NO = -2, FULL = -3, NONE = -4;
    private static final String PLAIN = "k0,0,0,0,1;";
    private static final Check CHECK = new Check();

    public static void main(String[] args) {
        CHECK.each(
            TextEdgesTest::atFirst, TextEdgesTest::textIsEmptyAtFirst, TextEdgesTest::letters,
            TextEdgesTest::twoHundredLetters, TextEdgesTest::wipeOfAnEmptyText, TextEdgesTest::wipeOfAFullText,
            TextEdgesTest::faultOfAnEmptyText, TextEdgesTest::faultAtTheFirstPlace,
            TextEdgesTest::faultAtTheLastPlace, TextEdgesTest::noFaultInAFullText,
            TextEdgesTest::firstOfSeveralFaults, TextEdgesTest::placeOfTheItemNotOfTheLetter,
            TextEdgesTest::otherLetters, TextEdgesTest::noFigure, TextEdgesTest::oneOrTwoFigures,
            TextEdgesTest::threeFigures, TextEdgesTest::signsBesideTheFigures, TextEdgesTest::partedByCommas,
            TextEdgesTest::endedBySemicolons, TextEdgesTest::howManyNumbers);
        CHECK.end();
    }

    private static void fault(String text, int place) {
        AsWithTheLast x = new AsWithTheLast();
        Texts.write(x, text);
        CHECK.due("fault() of " + text, x.fault(), place);
    }

    /** This item is a fault, wherever it stands. */
    private static void notSo(String item) {
        fault(item, 0);
        fault(PLAIN + item, 11);
        fault(PLAIN + "l1;" + item + PLAIN, 14);
    }

    private static void isSo(String item) {
        fault(PLAIN + item, NONE);
        fault(PLAIN + "l1;" + item + PLAIN, NONE);
    }

    private static void atFirst() {
        CHECK.about("1: at first k1,0,62,3,2;k3,1,13,5,1;k6,2,3,8,1;k24,3,63,4,3;e0;e1;e2;e3;e1;");
        AsWithTheLast x = new AsWithTheLast();
        AsWithTheLast y = Texts.laid("k1,0,62,3,2;k3,1,13,5,1;k6,2,3,8,1;k24,3,63,4,3;e0;e1;e2;e3;e1;");
        y.wipe();
        CHECK.isTrue("as if it were laid", Whole.of(x).equals(Whole.of(y)));
    }

    private static void textIsEmptyAtFirst() {
        CHECK.about("1: THE TEXT is empty at first");
        CHECK.due("count(11)", new AsWithTheLast().count(11), 0);
        CHECK.due("wipe()", new AsWithTheLast().wipe(), 0);
        CHECK.due("write(32)", new AsWithTheLast().write(32), 1);
        CHECK.due("fault()", new AsWithTheLast().fault(), NONE);
        CHECK.due("lay()", new AsWithTheLast().lay(), NO);
    }

    private static void letters() {
        CHECK.about("2: a letter (32 to 126)");
        AsWithTheLast x = new AsWithTheLast();
        for (int letter = 32; letter <= 126; letter++) {
            CHECK.due("write(" + letter + ")", x.write(letter), letter - 31);
        }
        int[] none = {31, 127, 128, 0, -1, 10, 'k' + 256, 'k' + 65536, 'k' - 256, Integer.MAX_VALUE,
            Integer.MIN_VALUE};
        for (int letter : none) {
            CHECK.due("write(" + letter + ")", x.write(letter), BAD);
            CHECK.due("count(11)", x.count(11), 95);
        }
    }

    private static void twoHundredLetters() {
        CHECK.about("2: letters (200 at most)");
        AsWithTheLast x = new AsWithTheLast();
        for (int length = 1; length <= 200; length++) {
            CHECK.due("write('e')", x.write('e'), length);
        }
        CHECK.due("write('e')", x.write('e'), FULL);
        CHECK.due("write('e') again", x.write('e'), FULL);
        CHECK.due("count(11)", x.count(11), 200);
        x.wipe();
        CHECK.due("write('e'), with room again", x.write('e'), 1);
    }

    private static void wipeOfAnEmptyText() {
        CHECK.about("3: how long it was, empty");
        AsWithTheLast x = new AsWithTheLast();
        CHECK.due("wipe()", x.wipe(), 0);
        x.write('k');
        CHECK.due("wipe()", x.wipe(), 1);
        CHECK.due("wipe()", x.wipe(), 0);
    }

    private static void wipeOfAFullText() {
        CHECK.about("3: how long it was, full");
        AsWithTheLast x = new AsWithTheLast();
        Texts.write(x, Texts.times(200, "k"));
        CHECK.due("wipe()", x.wipe(), 200);
        CHECK.due("count(11)", x.count(11), 0);
        CHECK.due("fault(), nothing is left", x.fault(), NONE);
    }

    private static void faultOfAnEmptyText() {
        CHECK.about("4: FAULT, NONE, of an empty text");
        fault("", NONE);
    }

    private static void faultAtTheFirstPlace() {
        CHECK.about("4: FAULT, the first place of all");
        fault("x", 0);
        fault("x" + PLAIN, 0);
        fault("e0;" + PLAIN, 0);
    }

    private static void faultAtTheLastPlace() {
        CHECK.about("4: FAULT, the last place of all");
        String most = "k31,5,63,20,9;l00;l01;" + Texts.times(59, "l1;");
        CHECK.due("letters", most.length(), 199);
        fault(most, NONE);
        fault(most + "k", 199);
        fault(most + ";", 199);
    }

    private static void noFaultInAFullText() {
        CHECK.about("4: FAULT, NONE, of 200 letters");
        String text = Texts.times(62, "l1;") + "k31,5,63,20,9;";
        CHECK.due("letters", text.length(), 200);
        fault(text, NONE);
        AsWithTheLast x = Texts.laid(text);
        CHECK.due("kind(0, 4), of the last item", x.kind(0, 4), 9);
    }

    private static void firstOfSeveralFaults() {
        CHECK.about("4: the first ITEM that is not so");
        fault("l3;l4;f6;e9;", 3);
        fault("l3;f5;f6;l4;" + PLAIN, 6);
        fault(PLAIN + "e0;e1;e2;k99,0,0,0,1;", 14);
        fault(PLAIN + "k0,0,0,0,0;l9", 11);
        fault(PLAIN + "k0,9,99,99,99;", 11);
    }

    private static void placeOfTheItemNotOfTheLetter() {
        CHECK.about("4: the place of the first letter of the ITEM");
        fault(PLAIN + "k0,0,0,0,x;", 11);
        fault(PLAIN + "k31,05,63,20,9", 11);
        fault(PLAIN + "l2;f5x", 14);
    }

    private static void otherLetters() {
        CHECK.about("4: each a letter, k, l, f or e");
        for (char letter = 32; letter < 127; letter++) {
            if ("klfe".indexOf(letter) < 0) {
                fault(PLAIN + letter + "0;", 11);
                fault(letter + "0,0,0,0,1;", 0);
                fault(PLAIN + letter + ";", 11);
            }
        }
        isSo("k0,0,0,0,1;");
        isSo("l0;");
        isSo("f0;");
        isSo("e0;");
    }

    private static void noFigure() {
        CHECK.about("4: numbers (one or two figures), none");
        for (String item : new String[] {"k,0,0,0,1;", "k0,,0,0,1;", "k0,0,,0,1;", "k0,0,0,,1;", "k0,0,0,0,;", "l;",
            "f;", "e;", "k,,,,;", "k", "l", "f", "e"}) {
            fault(PLAIN + item, 11);
        }
    }

    private static void oneOrTwoFigures() {
        CHECK.about("4: numbers (one or two figures), one and two");
        for (String item : new String[] {"k9,0,0,0,1;", "k10,0,0,0,1;", "k00,00,00,00,01;", "k09,05,09,09,09;",
            "k0,0,10,10,1;", "l0;", "l00;", "l03;", "f05;", "e0;", "e00;"}) {
            isSo(item);
        }
        AsWithTheLast x = Texts.laid("k19,05,60,17,08;");
        int[] told = {19, 5, 60, 17, 8};
        for (int what = 0; what < 5; what++) {
            CHECK.due("kind(0, " + what + ")", x.kind(0, what), told[what]);
        }
    }

    private static void threeFigures() {
        CHECK.about("4: numbers (one or two figures), three");
        for (String item : new String[] {"k000,0,0,0,1;", "k001,0,0,0,1;", "k0,001,0,0,1;", "k0,0,001,0,1;",
            "k0,0,0,001,1;", "k0,0,0,0,001;", "k100,0,0,0,1;", "l000;", "l001;", "f000;", "f001;", "e000;"}) {
            notSo(item);
        }
    }

    private static void signsBesideTheFigures() {
        CHECK.about("4: numbers are of figures alone");
        for (char sign : new char[] {'/', ':', ' ', '-', '+', 'a', 'A', '.'}) {
            notSo("k" + sign + ",0,0,0,1;");
            notSo("k1" + sign + ",0,0,0,1;");
            notSo("k" + sign + "1,0,0,0,1;");
            notSo("l" + sign + ";");
            notSo("l0" + sign + ";");
            notSo("f0" + sign + ";");
            notSo("e" + sign + "0;");
        }
    }

    private static void partedByCommas() {
        CHECK.about("4: numbers parted by ,");
        for (String item : new String[] {"k0;0,0,0,1;", "k0,0;0,0,1;", "k0,0,0;0,1;", "k0,0,0,0;1;", "k0 0,0,0,1;",
            "k0.0,0,0,1;", "k,0,0,0,0,1;", "k0,0,0,0,,1;", "k0, 0,0,0,1;", "k0-0-0-0-1;"}) {
            notSo(item);
        }
    }

    private static void endedBySemicolons() {
        CHECK.about("4: a ; behind the last one");
        for (String item : new String[] {"k0,0,0,0,1", "k0,0,0,0,1,", "k0,0,0,0,1 ;", "k0,0,0,0,1:", "l0", "l0,", "f0",
            "f0.", "e0", "e0 "}) {
            fault(PLAIN + item, 11);
            fault(PLAIN + item + PLAIN, 11);
        }
        fault(PLAIN + ";", 11);
        fault(";", 0);
        fault("l0;;", 3);
    }

    private static void howManyNumbers() {
        CHECK.about("4: as many numbers as the ITEM has");
        for (String item : new String[] {"k0;", "k0,0,0,0;", "k0,0,0,1;", "k0,0,0,0,1,1;", "l0,0;", "f0,0;", "e0,0;",
            "l0,0,0,0,1;", "e0,0,0,0,1;"}) {
            notSo(item);
        }
    }
}
