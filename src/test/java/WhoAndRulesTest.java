/** Promises 20 to 26: what was seen, who he is, what to hand him, rules by marks. */
public final class WhoAndRulesTest {
    private static final int BAD = -1, FULL = -3, NONE = -4;
    private static final Check CHECK = new Check();

    public static void main(String[] args) {
        seen();
        forget();
        fits();
        fitsAsLaid();
        firsts();
        ask();
        askNow();
        rule();
        wrong();
        CHECK.end();
    }

    private static void seen() {
        CHECK.about("promise 20");
        AsWithTheLast x = new AsWithTheLast();
        int[][] wrong = {{5, 0}, {-1, 0}, {0, 6}, {0, -1}};
        for (int[] w : wrong) {
            CHECK.due("seen(" + w[0] + ", " + w[1] + ")", x.seen(w[0], w[1]), BAD);
        }
        CHECK.due("count(8)", x.count(8), 0);
        for (int n = 1; n <= 8; n++) {
            CHECK.due("seen(4, 5)", x.seen(4, 5), n);
        }
        CHECK.due("seen(4, 5)", x.seen(4, 5), FULL);
        CHECK.due("seen(5, 5), of many", x.seen(5, 5), BAD);
        CHECK.due("count(8)", x.count(8), 8);
        x.noRow();
        CHECK.due("count(8)", x.count(8), 0);
        CHECK.due("seen(0, 0), of no row", x.seen(0, 0), BAD);
        x.tell(1);
        CHECK.due("seen(0, 0)", x.seen(0, 0), 1);
    }

    private static void forget() {
        CHECK.about("promise 21");
        AsWithTheLast x = new AsWithTheLast();
        CHECK.due("forget()", x.forget(), 0);
        x.seen(0, 5);
        x.seen(1, 5);
        CHECK.due("fits()", x.fits(), 0);
        CHECK.due("forget()", x.forget(), 2);
        CHECK.due("fits()", x.fits(), 15);
        CHECK.due("count(8)", x.count(8), 0);
        CHECK.due("count(3), the row stays", x.count(3), 5);
    }

    /** Handed the row at first: LAST does 0 0 1 2 3, BEFORE 0 0 0 1 2, LIKEST 0 0 1 2 1, SAME 0 0 0 0 1. */
    private static void fits() {
        CHECK.about("promise 22");
        int[][] does = {{0, 0, 1, 2, 3}, {0, 0, 0, 1, 2}, {0, 0, 1, 2, 1}, {0, 0, 0, 0, 1}};
        for (int k = 0; k < 5; k++) {
            for (int doing = 0; doing < 6; doing++) {
                AsWithTheLast x = new AsWithTheLast();
                x.seen(k, doing);
                int bits = 0;
                for (int sort = 0; sort < 4; sort++) {
                    bits |= does[sort][k] == doing ? 1 << sort : 0;
                }
                CHECK.due("fits() of " + k + ", " + doing, x.fits(), bits);
            }
        }
        AsWithTheLast x = new AsWithTheLast();
        x.seen(2, 1);
        CHECK.due("fits()", x.fits(), 5);
        x.seen(4, 1);
        CHECK.due("fits()", x.fits(), 4);
        x.seen(4, 1);
        CHECK.due("fits()", x.fits(), 4);
        x.seen(4, 3);
        CHECK.due("fits() of what cannot be", x.fits(), 0);
    }

    private static void fitsAsLaid() {
        CHECK.about("promise 22, as laid");
        AsWithTheLast x = new AsWithTheLast();
        x.teach(0, 5);
        x.hand(1);
        x.seen(0, 0);
        x.seen(3, 2);
        CHECK.due("fits()", x.fits(), 5);
        CHECK.due("firsts(0)", x.firsts(0), 1);
        x.tell(2);
        x.seen(5, 1);
        CHECK.due("fits(), the row longer", x.fits(), 1);
        AsWithTheLast y = Texts.laid("k0,0,0,0,1;f4;l2;e0;");
        y.seen(0, 4);
        CHECK.due("fits(), first as told", y.fits(), 15);
        y.forget();
        y.seen(0, 0);
        CHECK.due("fits(), first as told", y.fits(), 0);
    }

    private static void firsts() {
        CHECK.about("promise 23");
        AsWithTheLast x = new AsWithTheLast();
        for (int sort = 0; sort < 4; sort++) {
            CHECK.due("firsts(" + sort + ")", x.firsts(sort), 63);
        }
        CHECK.due("firsts(4)", x.firsts(4), BAD);
        CHECK.due("firsts(-1)", x.firsts(-1), BAD);
        x.seen(0, 3);
        CHECK.due("firsts(0)", x.firsts(0), 8);
        x.forget();
        // When the second thing is handed, LAST has heard of the first, unless he did right with it.
        x.seen(1, 0);
        int[] bits = {63, 1, 63, 1};
        for (int sort = 0; sort < 4; sort++) {
            CHECK.due("firsts(" + sort + ")", x.firsts(sort), bits[sort]);
        }
        x.seen(1, 1);
        CHECK.due("firsts(0)", x.firsts(0), 0);
        // SAME hears of kind 1 at its second place, unless 1 is what he does first.
        x.forget();
        x.seen(4, 1);
        CHECK.due("firsts(3)", x.firsts(3), 63);
        x.seen(2, 1);
        CHECK.due("firsts(3)", x.firsts(3), 2);
    }

    private static void ask() {
        CHECK.about("promise 24");
        AsWithTheLast x = new AsWithTheLast();
        CHECK.due("ask(0), nothing heard", x.ask(0), 0);
        CHECK.due("ask(1)", x.ask(1), 4);
        CHECK.due("ask(2)", x.ask(2), BAD);
        CHECK.due("ask(-1)", x.ask(-1), BAD);
        x.seen(2, 1);
        CHECK.due("ask(1), of LAST and LIKEST", x.ask(1), 2);
        x.seen(0, 5);
        CHECK.due("ask(0), none fits", x.ask(0), NONE);
        CHECK.due("ask(1), none fits", x.ask(1), NONE);
        CHECK.due("ask(2), none fits", x.ask(2), BAD);
    }

    private static void askNow() {
        CHECK.about("promise 24, now");
        AsWithTheLast x = Texts.laid("k0,0,0,0,1;k1,0,0,0,1;k7,0,0,0,1;k1,0,0,0,1;f5;e0;");
        x.teach(0, 1);
        x.teach(1, 2);
        x.teach(2, 3);
        // LAST 3, BEFORE 2; LIKEST and SAME of the four kinds: 1 1, 2 2, 3 3, 2 5.
        CHECK.due("ask(0)", x.ask(0), 0);
        CHECK.due("ask(1)", x.ask(1), 2);
        x.teach(2, 4);
        // LAST 4, BEFORE 3; 1 1, 2 2, 4 4, 2 5.
        CHECK.due("ask(0)", x.ask(0), 3);
        CHECK.due("ask(1)", x.ask(1), 1);
        x.seen(0, 5);
        CHECK.due("ask(1)", x.ask(1), 1);
        x.undo();
        CHECK.due("ask(1)", x.ask(1), 2);
    }

    private static void rule() {
        CHECK.about("promise 25");
        AsWithTheLast x = new AsWithTheLast();
        int[] rules = {NONE, 3, 4, 8, 5, 5};
        for (int doing = 0; doing < 6; doing++) {
            CHECK.due("rule(" + doing + ")", x.rule(doing), rules[doing]);
        }
        CHECK.due("rule(6)", x.rule(6), BAD);
        CHECK.due("rule(-1)", x.rule(-1), BAD);
        AsWithTheLast all = Texts.laid("k3,2,0,0,1;k0,2,0,0,1;");
        CHECK.due("rule(2), of all", all.rule(2), 0);
        CHECK.due("rule(0), of none", all.rule(0), 4);
        AsWithTheLast full = Texts.laid("k31,2,0,0,1;");
        CHECK.due("rule(2)", full.rule(2), 0);
        CHECK.due("rule(0), of none", full.rule(0), NONE);
        // Two marks are fewer than the three of 7, though 24 is the greater number.
        AsWithTheLast few = Texts.laid("k31,1,0,0,1;k15,0,0,0,1;k23,0,0,0,1;");
        CHECK.due("rule(1)", few.rule(1), 24);
    }

    private static void wrong() {
        CHECK.about("promise 26");
        AsWithTheLast x = new AsWithTheLast();
        CHECK.due("wrong(1, 1, false)", x.wrong(1, 1, false), 0);
        CHECK.due("wrong(0, 1, false)", x.wrong(0, 1, false), 1);
        CHECK.due("wrong(0, 1, true)", x.wrong(0, 1, true), NONE);
        CHECK.due("wrong(1, 3, false)", x.wrong(1, 3, false), NONE);
        CHECK.due("wrong(1, 7, true)", x.wrong(1, 7, true), 1);
        CHECK.due("wrong(1, 0, false)", x.wrong(1, 0, false), 0);
        CHECK.due("wrong(0, 0, false)", x.wrong(0, 0, false), 1);
        CHECK.due("wrong(3, 31, true)", x.wrong(3, 31, true), 3);
        CHECK.due("wrong(5, 0, true)", x.wrong(5, 0, true), NONE);
        AsWithTheLast y = Texts.laid("k1,0,0,0,1;k2,1,0,0,1;k3,1,0,0,1;k2,0,0,0,1;");
        CHECK.due("wrong(1, 2, false)", y.wrong(1, 2, false), 3);
        CHECK.due("wrong(1, 1, true)", y.wrong(1, 1, true), 1);
        CHECK.due("wrong(1, 1, false)", y.wrong(1, 1, false), 0);
        int[][] wrong = {{6, 0}, {-1, 0}, {0, 32}, {0, -1}};
        for (int[] w : wrong) {
            CHECK.due("wrong(" + w[0] + ", " + w[1] + ", false)", x.wrong(w[0], w[1], false), BAD);
            CHECK.due("wrong(" + w[0] + ", " + w[1] + ", true)", x.wrong(w[0], w[1], true), BAD);
        }
    }
}
