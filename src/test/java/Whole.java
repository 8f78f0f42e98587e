/** All that calls can show of an object, as one text; the object is spent then (all is undone, taken back, laid). */
final class Whole {
    private Whole() {
    }

    static String of(AsWithTheLast x) {
        StringBuilder all = new StringBuilder("counts");
        for (int what = 0; what < 12; what++) {
            add(all, x.count(what));
        }
        addLesson(all.append(" lesson"), x);
        addWords(all.append(" words"), x);
        all.append(" who");
        add(all, x.fits());
        for (int sort = 0; sort < 4; sort++) {
            add(all, x.firsts(sort));
        }
        add(all.append(" fault"), x.fault());
        for (int i = 0; i < 20 && x.undo() >= 0; i++) {
            addMemory(all.append(" undone"), x);
        }
        for (int i = 0; i < 20 && x.back() >= 0; i++) {
            addMemory(all.append(" back"), x);
        }
        add(all.append(" laid"), x.lay());
        addLesson(all, x);
        return all.toString();
    }

    private static void add(StringBuilder all, int number) {
        all.append(' ').append(number);
    }

    private static void addLesson(StringBuilder all, AsWithTheLast x) {
        for (int k = 0; k < 6 && x.kind(k, 0) >= 0; k++) {
            for (int what = 0; what < 6; what++) {
                add(all, x.kind(k, what));
            }
        }
        for (int place = 0, kind = x.errand(0); kind >= 0 && place < 20; kind = x.errand(++place)) {
            add(all, kind);
        }
    }

    private static void addWords(StringBuilder all, AsWithTheLast x) {
        for (int w = 0, word = x.word(0); word >= 0 && w < 50; word = x.word(++w)) {
            add(all, word);
        }
    }

    private static void addMemory(StringBuilder all, AsWithTheLast x) {
        for (int what = 4; what < 8; what++) {
            add(all, x.count(what));
        }
        add(all, x.word(0));
        add(all, x.word(Math.max(0, x.count(4) - 1)));
        for (int k = 0, often = x.kind(0, 5); often >= 0 && k < 9; often = x.kind(++k, 5)) {
            add(all, often);
        }
    }
}
