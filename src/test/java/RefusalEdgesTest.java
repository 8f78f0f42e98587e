import java.util.function.Supplier;
import java.util.function.ToIntFunction;

/** Of several answers the first of BAD, NO, NONE, FULL; and nothing changes with a refused call, nor with a look. */
public final class RefusalEdgesTest {
    private static final int BAD = -1, NO = -2, FULL = -3, NONE = -4;
    private static final int[] FAR = {-1, Integer.MIN_VALUE, Integer.MAX_VALUE};
    private static final String LESSON = "k0,0,62,5,1;k1,1,61,9,2;k7,2,8,7,3;";
    private static final Check CHECK = new Check();

    public static void main(String[] args) {
        CHECK.each(
            RefusalEdgesTest::badAheadOfFull, RefusalEdgesTest::badAheadOfNo, RefusalEdgesTest::badAheadOfNone,
            RefusalEdgesTest::refusedWrite, RefusalEdgesTest::refusedLay, RefusalEdgesTest::refusedHand,
            RefusalEdgesTest::refusedTeach, RefusalEdgesTest::refusedUndo, RefusalEdgesTest::refusedTell,
            RefusalEdgesTest::refusedOrder, RefusalEdgesTest::refusedSeen, RefusalEdgesTest::refusedKeep,
            RefusalEdgesTest::refusedBack, RefusalEdgesTest::refusedLooks, RefusalEdgesTest::looks,
            RefusalEdgesTest::looksAtNoRow);
        CHECK.end();
    }

    /** Some of everything, and room for more of everything. */
    private static AsWithTheLast begun() {
        AsWithTheLast x = Texts.laid(LESSON + "l2;f3;e0;e1;e2;e0;");
        x.hand(0);
        x.teach(2, 4);
        x.keep();
        x.hand(1);
        x.tell(2);
        x.seen(0, 3);
        Texts.write(x, "k5,1,2,3,4;l1;e0;");
        return x;
    }

    /** As much of everything as there can be, but for THE TEXT. */
    private static AsWithTheLast full() {
        AsWithTheLast x = Texts.laid(LESSON + "l3;f3;e0;e1;e2;e0;");
        for (int i = 0; i < 32; i++) {
            x.teach(i % 3, i % 5);
        }
        x.keep();
        for (int i = 0; i < 12; i++) {
            x.hand(i % 3);
            x.teach(2 - i % 3, i % 6);
        }
        x.keep();
        for (int i = 0; i < 6; i++) {
            x.tell(1);
        }
        for (int i = 0; i < 8; i++) {
            x.seen(0, 3);
        }
        Texts.write(x, "k5,1,2,3,4;l1;e0;");
        return x;
    }

    private static AsWithTheLast withText(String text) {
        AsWithTheLast x = begun();
        Texts.write(x, text);
        return x;
    }

    /** Two that are as one another; the call is made with one of them, and they still are. */
    private static void changesNothing(String name, Supplier<AsWithTheLast> made, ToIntFunction<AsWithTheLast> call,
            int due) {
        AsWithTheLast x = made.get();
        CHECK.due(name, call.applyAsInt(x), due);
        CHECK.due(name + " again", call.applyAsInt(x), due);
        CHECK.isTrue("nothing changes by " + name, Whole.of(x).equals(Whole.of(made.get())));
    }

    private static void badChangesNothing(String name, ToIntFunction<AsWithTheLast> call) {
        changesNothing(name, AsWithTheLast::new, call, BAD);
        changesNothing(name, RefusalEdgesTest::begun, call, BAD);
        changesNothing(name, RefusalEdgesTest::full, call, BAD);
    }

    private static void badAheadOfFull() {
        CHECK.about("Of several the first in this order: BAD, then FULL");
        AsWithTheLast x = full();
        CHECK.due("count(3)", x.count(3), 10);
        CHECK.due("count(8)", x.count(8), 8);
        CHECK.due("tell(0)", x.tell(0), FULL);
        CHECK.due("seen(0, 0)", x.seen(0, 0), FULL);
        for (int far : new int[] {-1, 3, Integer.MIN_VALUE, Integer.MAX_VALUE}) {
            CHECK.due("tell(" + far + ")", x.tell(far), BAD);
        }
        for (int far : new int[] {-1, 10, Integer.MIN_VALUE, Integer.MAX_VALUE}) {
            CHECK.due("seen(" + far + ", 0)", x.seen(far, 0), BAD);
            CHECK.due("seen(0, " + far + ")", x.seen(0, far), BAD);
        }
        AsWithTheLast letters = new AsWithTheLast();
        Texts.write(letters, Texts.times(200, "l"));
        CHECK.due("write(32)", letters.write(32), FULL);
        CHECK.due("write(31)", letters.write(31), BAD);
        CHECK.due("write(127)", letters.write(127), BAD);
    }

    private static void badAheadOfNo() {
        CHECK.about("Of several the first in this order: BAD, then NO");
        AsWithTheLast x = full();
        CHECK.due("order(-1)", x.order(-1), NO);
        CHECK.due("order(9)", x.order(9), NO);
        CHECK.due("order(-2)", x.order(-2), BAD);
        CHECK.due("order(10)", x.order(10), BAD);
        CHECK.due("order(-2^31)", x.order(Integer.MIN_VALUE), BAD);
        CHECK.due("order(2^31 - 1)", x.order(Integer.MAX_VALUE), BAD);
    }

    private static void badAheadOfNone() {
        CHECK.about("Of several the first in this order, whatever the order at a call: BAD, then NONE");
        AsWithTheLast x = begun();
        x.seen(0, 1);
        CHECK.due("ask(0)", x.ask(0), NONE);
        x.noRow();
        CHECK.due("best(0)", x.best(0), NONE);
        CHECK.due("run(0, -1, 1)", x.run(0, -1, 1), NONE);
        CHECK.due("run(4, -1, 1)", x.run(4, -1, 1), BAD);
        CHECK.due("errand(0)", x.errand(0), NONE);
        AsWithTheLast y = begun();
        y.seen(0, 1);
        for (int far : new int[] {-1, 2, Integer.MIN_VALUE, Integer.MAX_VALUE}) {
            CHECK.due("ask(" + far + ")", y.ask(far), BAD);
            CHECK.due("best(" + far + ")", x.best(far), BAD);
            CHECK.due("run(0, -1, " + far + ")", x.run(0, -1, far), BAD);
        }
        for (int far : FAR) {
            CHECK.due("rule(" + far + ")", x.rule(far), BAD);
            CHECK.due("wrong(" + far + ", 31, false)", x.wrong(far, 31, false), BAD);
            CHECK.due("wrong(5, " + far + ", true)", x.wrong(5, far, true), BAD);
        }
    }

    private static void refusedWrite() {
        CHECK.about("2: nothing changes, BAD and FULL");
        badChangesNothing("write(31)", x -> x.write(31));
        badChangesNothing("write(127)", x -> x.write(127));
        Supplier<AsWithTheLast> made = () -> {
            AsWithTheLast x = new AsWithTheLast();
            Texts.write(x, "k5,1,2,3,4;e0;" + Texts.times(62, "l3;"));
            return x;
        };
        changesNothing("write(120)", made, x -> x.write('x'), FULL);
        changesNothing("write(200)", made, x -> x.write(200), BAD);
    }

    private static void refusedLay() {
        CHECK.about("5: nothing changes, NO");
        for (String text : new String[] {"", "l3;f1;", "k5,1,2,3,4;l3;f1;e0;e1;", "k5,1,2,3,4;l3;f5;e0;x",
            "k0,0,0,0,1;k0,0,0,0,1;k0,0,0,0,1;k0,0,0,0,0;"}) {
            changesNothing("lay() of " + text, () -> withText(text), x -> x.lay(), NO);
        }
        changesNothing("lay() of a new one", AsWithTheLast::new, x -> x.lay(), NO);
        changesNothing("lay() of a full one", () -> {
            AsWithTheLast x = full();
            x.write('x');
            return x;
        }, x -> x.lay(), NO);
    }

    private static void refusedHand() {
        CHECK.about("11: nothing changes, BAD");
        for (int far : FAR) {
            badChangesNothing("hand(" + far + ")", x -> x.hand(far));
        }
        badChangesNothing("hand(count(0))", x -> x.hand(x.count(0)));
        badChangesNothing("hand(6)", x -> x.hand(6));
    }

    private static void refusedTeach() {
        CHECK.about("12: nothing changes, BAD");
        for (int far : FAR) {
            badChangesNothing("teach(" + far + ", 0)", x -> x.teach(far, 0));
            badChangesNothing("teach(0, " + far + ")", x -> x.teach(0, far));
        }
        badChangesNothing("teach(count(0), 0)", x -> x.teach(x.count(0), 0));
        badChangesNothing("teach(0, 6)", x -> x.teach(0, 6));
    }

    private static void refusedUndo() {
        CHECK.about("13: nothing changes, NO");
        changesNothing("undo() of a new one", AsWithTheLast::new, x -> x.undo(), NO);
        Supplier<AsWithTheLast> undone = () -> {
            AsWithTheLast x = full();
            for (int i = 0; i < 8; i++) {
                x.undo();
            }
            return x;
        };
        changesNothing("undo() when eight are undone", undone, x -> x.undo(), NO);
        changesNothing("undo() when it is as kept", () -> {
            AsWithTheLast x = full();
            x.back();
            return x;
        }, x -> x.undo(), NO);
    }

    private static void refusedTell() {
        CHECK.about("14: nothing changes, BAD and FULL");
        for (int far : FAR) {
            badChangesNothing("tell(" + far + ")", x -> x.tell(far));
        }
        badChangesNothing("tell(count(0))", x -> x.tell(x.count(0)));
        changesNothing("tell(0)", RefusalEdgesTest::full, x -> x.tell(0), FULL);
    }

    private static void refusedOrder() {
        CHECK.about("18: nothing changes, BAD and NO");
        badChangesNothing("order(-2)", x -> x.order(-2));
        badChangesNothing("order(count(3))", x -> x.order(x.count(3)));
        changesNothing("order(-1)", RefusalEdgesTest::full, x -> x.order(-1), NO);
        changesNothing("order(0)", RefusalEdgesTest::full, x -> x.order(0), NO);
    }

    private static void refusedSeen() {
        CHECK.about("20: nothing changes, BAD and FULL");
        for (int far : FAR) {
            badChangesNothing("seen(" + far + ", 0)", x -> x.seen(far, 0));
            badChangesNothing("seen(0, " + far + ")", x -> x.seen(0, far));
        }
        badChangesNothing("seen(count(3), 0)", x -> x.seen(x.count(3), 0));
        badChangesNothing("seen(0, 6)", x -> x.seen(0, 6));
        changesNothing("seen(0, 4)", RefusalEdgesTest::full, x -> x.seen(0, 4), FULL);
        changesNothing("seen(0, 3)", RefusalEdgesTest::full, x -> x.seen(0, 3), FULL);
    }

    private static void refusedKeep() {
        CHECK.about("30: nothing changes, FULL");
        changesNothing("keep()", RefusalEdgesTest::full, x -> x.keep(), FULL);
        changesNothing("keep() of two alike", () -> {
            AsWithTheLast x = new AsWithTheLast();
            x.teach(0, 1);
            x.keep();
            x.keep();
            x.teach(0, 2);
            return x;
        }, x -> x.keep(), FULL);
    }

    private static void refusedBack() {
        CHECK.about("31: nothing changes, NO");
        changesNothing("back() of a new one", AsWithTheLast::new, x -> x.back(), NO);
        changesNothing("back() when nothing was kept", () -> {
            AsWithTheLast x = new AsWithTheLast();
            x.hand(1);
            x.teach(0, 2);
            return x;
        }, x -> x.back(), NO);
        changesNothing("back() when all was taken back", () -> {
            AsWithTheLast x = full();
            x.back();
            x.back();
            x.hand(1);
            return x;
        }, x -> x.back(), NO);
    }

    private static void refusedLooks() {
        CHECK.about("6 to 10, 16, 19, 23 to 29, 32: nothing changes, BAD");
        for (int far : FAR) {
            badChangesNothing("kind", x -> Math.max(x.kind(far, 0), x.kind(0, far)));
            badChangesNothing("errand and word", x -> Math.max(x.errand(-1), x.word(-1)));
            badChangesNothing("unlike", x -> Math.max(x.unlike(far, 0), x.unlike(0, far)));
            badChangesNothing("does", x -> Math.max(x.does(far, 0), x.does(0, far)));
            badChangesNothing("run", x -> Math.max(x.run(far, 0, 0), x.run(0, 0, far)));
            badChangesNothing("best and ask", x -> Math.max(x.best(far), x.ask(far)));
            badChangesNothing("firsts and rule", x -> Math.max(x.firsts(far), x.rule(far)));
            badChangesNothing("wrong", x -> Math.max(x.wrong(far, 0, true), x.wrong(0, far, false)));
            badChangesNothing("turns", x -> x.byTurns(far));
            badChangesNothing("mean", x -> Math.max(x.mean(far, 0), x.mean(1, far)));
            badChangesNothing("year", x -> Math.max(x.year(far, 1, 0), x.year(0, far, 0)));
            badChangesNothing("year, what", x -> x.year(0, 1, far));
            badChangesNothing("count", x -> x.count(far));
        }
    }

    private static int lookAtHim(AsWithTheLast x) {
        for (int sort = 0; sort < 4; sort++) {
            x.does(sort, 0);
            x.run(sort, -1, 0);
            x.run(sort, -1, 1);
            x.run(sort, 2, 0);
            x.firsts(sort);
        }
        x.round();
        x.order(-1);
        x.order(0);
        x.best(0);
        x.best(1);
        x.fits();
        x.ask(0);
        x.ask(1);
        return x.count(6);
    }

    private static int lookAtTheRest(AsWithTheLast x) {
        x.fault();
        x.kind(0, 5);
        x.errand(0);
        x.errand(99);
        x.word(0);
        x.word(99);
        x.unlike(0, 1);
        x.rule(0);
        x.rule(5);
        x.wrong(0, 0, true);
        x.wrong(0, 0, false);
        x.byTurns(2);
        x.mean(3, 0);
        x.mean(3, 1);
        x.year(1, 60, 0);
        x.year(1, 60, 1);
        return x.count(6);
    }

    private static void looksChangeNothing(String name, Supplier<AsWithTheLast> made) {
        int lost = made.get().count(6);
        changesNothing("looking at him, " + name, made, x -> lookAtHim(x), lost);
        changesNothing("looking at the rest, " + name, made, x -> lookAtTheRest(x), lost);
    }

    private static void looks() {
        CHECK.about("4, 6 to 10, 16 to 19, 22 to 29, 32: what he would do changes nothing");
        looksChangeNothing("a new one", AsWithTheLast::new);
        looksChangeNothing("one that has begun", RefusalEdgesTest::begun);
        looksChangeNothing("a full one", RefusalEdgesTest::full);
    }

    private static void looksAtNoRow() {
        CHECK.about("16 to 19: what he would do with no row changes nothing");
        Supplier<AsWithTheLast> made = () -> {
            AsWithTheLast x = full();
            x.noRow();
            return x;
        };
        looksChangeNothing("one with no row", made);
        changesNothing("round() of no row", made, x -> x.round(), NONE);
        changesNothing("noRow() of no row", made, x -> x.noRow(), 0);
        changesNothing("forget() of nothing", made, x -> x.forget(), 0);
    }
}
