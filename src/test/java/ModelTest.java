import java.util.Random;

/** Drawn calls (the same ones every time), 512 at most of an object, each answer against the plain model's. */
public final class ModelTest {
    private static final String[] CALLS = {"kind", "errand", "word", "unlike", "does", "hand", "hand", "hand", "teach",
        "teach", "undo", "tell", "noRow", "run", "run", "round", "order", "best", "seen", "seen", "forget", "fits",
        "firsts", "ask", "rule", "wrong", "byTurns", "mean", "year", "keep", "back", "count", "count", "write",
        "text", "wrongText", "fault", "lay"};

    private static final int CALLS_AT_MOST = 512, CALLS_OF_A_LOOK = 265, CALLS_OF_A_TEXT = 150;

    private final Random draw = new Random(19);
    private final Check check = new Check();
    private AsWithTheLast x;
    private Model m;
    private int callsLeft;

    public static void main(String[] args) {
        ModelTest test = new ModelTest();
        for (int run = 0; run < 1500 && test.check.wrong() == 0; run++) {
            test.oneRun(run);
        }
        test.check.end();
    }

    private void due(String call, int got, int want) {
        callsLeft--;
        check.due(call, got, want);
    }

    private void oneRun(int run) {
        check.about("run " + run);
        x = new AsWithTheLast();
        m = new Model();
        callsLeft = CALLS_AT_MOST;
        int style = run % 4;
        if (style > 0) {
            told(drawnText());
        }
        if (style == 2) {
            for (int i = 0; i < 44; i++) {
                int k = draw.nextInt(2);
                int d = number(5);
                due("teach", x.teach(k, d), m.teach(k, d));
            }
        }
        boolean looksAtAll = run % 2 == 0;
        int kept = CALLS_OF_A_TEXT + (looksAtAll ? CALLS_OF_A_LOOK : 0);
        while (callsLeft > kept && check.wrong() == 0) {
            oneCall(CALLS[draw.nextInt(CALLS.length)], style == 3);
            // Some draws call nothing.
            callsLeft--;
        }
        if (looksAtAll) {
            lookAtAll();
        }
        check.isTrue("no more than 512 calls", callsLeft >= 0);
    }

    private int number(int most) {
        return draw.nextInt(25) == 0 ? (draw.nextBoolean() ? -1 - draw.nextInt(3) : most + 1 + draw.nextInt(3))
                : draw.nextInt(most + 1);
    }

    private int kindNumber() {
        return number(m.count(0) - 1);
    }

    private String drawnText() {
        StringBuilder text = new StringBuilder();
        int kinds = 1 + draw.nextInt(6);
        for (int k = 0; k < kinds; k++) {
            text.append("k").append(draw.nextInt(32)).append(',').append(draw.nextInt(6)).append(',')
                .append(draw.nextInt(4) == 0 ? 63 : draw.nextInt(64)).append(',').append(draw.nextInt(21)).append(',')
                .append(1 + draw.nextInt(9)).append(';');
        }
        if (draw.nextInt(6) > 0) {
            text.append("l").append(draw.nextInt(4)).append(';');
        }
        if (draw.nextInt(3) > 0) {
            text.append("f").append(draw.nextInt(6)).append(';');
        }
        for (int e = draw.nextInt(11); e > 0; e--) {
            text.append("e").append(draw.nextInt(kinds)).append(';');
        }
        return text.toString();
    }

    /** A drawn text with some letters put out of their place or made others. */
    private String spoiltText() {
        StringBuilder text = new StringBuilder(drawnText());
        for (int i = 1 + draw.nextInt(3); i > 0 && text.length() > 1; i--) {
            int place = draw.nextInt(text.length());
            switch (draw.nextInt(3)) {
                case 0:
                    text.deleteCharAt(place);
                    break;
                case 1:
                    text.insert(place, "klfe,;0123456789 ".charAt(draw.nextInt(17)));
                    break;
                default:
                    text.setCharAt(place, "klfe,;0123456789 ".charAt(draw.nextInt(17)));
            }
        }
        return text.toString();
    }

    private void told(String text) {
        due("wipe", x.wipe(), m.wipe());
        for (char c : text.toCharArray()) {
            due("write", x.write(c), m.write(c));
        }
        due("fault of " + text, x.fault(), m.fault());
        due("lay of " + text, x.lay(), m.lay());
    }

    private void lookAtAll() {
        for (int what = -1; what <= 12; what++) {
            due("count(" + what + ")", x.count(what), m.count(what));
        }
        for (int w = -1; w <= 41; w++) {
            due("word(" + w + ")", x.word(w), m.word(w));
        }
        for (int k = -1; k <= 6; k++) {
            for (int what = -1; what <= 6; what++) {
                due("kind(" + k + "," + what + ")", x.kind(k, what), m.kind(k, what));
            }
            for (int sort = -1; sort <= 4; sort++) {
                due("does(" + sort + "," + k + ")", x.does(sort, k), m.does(sort, k));
            }
        }
        for (int sort = 0; sort < 4; sort++) {
            for (int k = -2; k <= 10; k++) {
                due("run(" + sort + "," + k + ",0)", x.run(sort, k, 0), m.run(sort, k, 0));
                due("run(" + sort + "," + k + ",1)", x.run(sort, k, 1), m.run(sort, k, 1));
            }
        }
    }

    private void oneCall(String call, boolean layOften) {
        int k = kindNumber();
        int d = number(5);
        int s = number(3);
        int w = number(1);
        int place = number(Math.max(0, m.count(3) - 1));
        switch (call) {
            case "kind": due(call, x.kind(k, d), m.kind(k, d)); break;
            case "errand": due(call, x.errand(place), m.errand(place)); break;
            case "word": w = number(40); due(call, x.word(w), m.word(w)); break;
            case "unlike": s = kindNumber(); due(call, x.unlike(k, s), m.unlike(k, s)); break;
            case "does": due(call, x.does(s, k), m.does(s, k)); break;
            case "hand": due(call, x.hand(k), m.hand(k)); break;
            case "teach": due(call, x.teach(k, d), m.teach(k, d)); break;
            case "undo": due(call, x.undo(), m.undo()); break;
            case "tell": due(call, x.tell(k), m.tell(k)); break;
            case "noRow": if (draw.nextInt(5) == 0) { due(call, x.noRow(), m.noRow()); } break;
            case "run": due(call, x.run(s, place, w), m.run(s, place, w)); break;
            case "round": due(call, x.round(), m.round()); break;
            case "order": order(); break;
            case "best": due(call, x.best(w), m.best(w)); due(call, x.best(1), m.best(1)); break;
            case "seen": seen(place, d); break;
            case "forget": due(call, x.forget(), m.forget()); break;
            case "fits": due(call, x.fits(), m.fits()); break;
            case "firsts": due(call, x.firsts(s), m.firsts(s)); break;
            case "ask": due(call, x.ask(w), m.ask(w)); due(call, x.ask(0), m.ask(0)); break;
            case "rule": due(call, x.rule(d), m.rule(d)); break;
            default: moreCalls(call, k, d, w, layOften);
        }
    }

    private void moreCalls(String call, int k, int d, int w, boolean layOften) {
        int n = number(2);
        switch (call) {
            case "wrong": wrong(d); break;
            case "byTurns": due(call, x.byTurns(n), m.byTurns(n)); break;
            case "mean": mean(); break;
            case "year": year(w); break;
            case "keep": due(call, x.keep(), m.keep()); break;
            case "back": due(call, x.back(), m.back()); break;
            case "count": n = number(11); due(call, x.count(n), m.count(n)); break;
            case "write": n = 30 + draw.nextInt(99); due(call, x.write(n), m.write(n)); break;
            case "text": if (layOften) { told(drawnText()); } break;
            case "wrongText": if (layOften) { told(spoiltText()); } break;
            case "fault": due(call, x.fault(), m.fault()); break;
            default: if (layOften) { due(call, x.lay(), m.lay()); }
        }
    }

    private void order() {
        if (m.count(3) > 5 && draw.nextInt(4) > 0) {
            return;
        }
        due("order(-1)", x.order(-1), m.order(-1));
        if (m.count(3) < 7) {
            for (int place = -2; place <= m.count(3); place++) {
                due("order(" + place + ")", x.order(place), m.order(place));
            }
        }
    }

    /** What is SEEN is mostly what one of the LEARNERS would have done, or nothing would ever fit. */
    private void seen(int place, int d) {
        int doing = d;
        if (draw.nextInt(4) > 0 && m.count(4) == 0) {
            int one = m.run(draw.nextInt(4), place, 0);
            doing = one < 0 ? d : one;
        }
        due("seen", x.seen(place, doing), m.seen(place, doing));
        due("fits", x.fits(), m.fits());
    }

    private void wrong(int d) {
        int marks = number(31);
        due("wrong", x.wrong(d, marks, true), m.wrong(d, marks, true));
        due("wrong", x.wrong(d, marks, false), m.wrong(d, marks, false));
    }

    private void mean() {
        int n = number(3);
        due("mean above", x.mean(n, 0), m.mean(n, 0));
        due("mean below", x.mean(n, 1), m.mean(n, 1));
    }

    private void year(int w) {
        int z = number(9999);
        int n = number(60);
        due("year", x.year(z, n, w), m.year(z, n, w));
    }
}
