/** One who does with each thing what he was told of the one before, and spoils it (../shared/DOC.md). */
public final class AsWithTheLast {
    public static final int BAD = -1, NO = -2, FULL = -3, NONE = -4;

    private static final String AT_FIRST =
            "k1,0,62,3,2;k3,1,13,5,1;k6,2,3,8,1;k24,3,63,4,3;e0;e1;e2;e3;e1;";

    private static final int LETTERS = 200, FIRST_LETTER = 32, LAST_LETTER = 126;
    private static final int KINDS = 6, ERRANDS = 10, DOINGS = 6, MARK_SETS = 32, SORTS = 4;
    private static final int WORDS = 40, UNDONE = 8, KEPT = 2, SEEN = 8;
    private static final int LAST = 0, BEFORE = 1, LIKEST = 2, SAME = 3;
    private static final int GOOD = 0, SPOILT = 1, NOTHING = 2;
    private static final int TIMES = 80, LAST_TIMES = 60, LONGEST_ROUND = 20;
    private static final int ORDERED = 7, TURNS = 2, MEAN_DAYS = 3, YEAR_DAYS = 60, YEARS = 9999;
    private static final int MORE_THAN_ANY = 1_000_000;

    private final Numbers text = new Numbers(LETTERS);
    private final Lesson told = new Lesson();
    private final Reader reader = new Reader(text, told);
    private final Lesson laid = new Lesson();
    private final Memory memory = new Memory();
    private final Shelf past = new Shelf(UNDONE);
    private final Shelf kept = new Shelf(KEPT);
    private final Numbers seenThings = new Numbers(SEEN);
    private final Numbers times = new Numbers(LAST_TIMES);
    private final Numbers alike = new Numbers(DOINGS);
    private final Learner learner;
    private final Orders orders;

    public AsWithTheLast() {
        // No search goes deeper than that for the best order, a step an errand.
        Learner chain = null;
        for (int i = 0; i <= ORDERED; i++) {
            chain = new Learner(laid, chain);
        }
        learner = chain;
        orders = new Orders(laid);
        for (int i = 0; i < AT_FIRST.length(); i++) {
            text.add(AT_FIRST.charAt(i));
        }
        reader.readAll();
        laid.copyFrom(told);
        text.clear();
    }

    // ---- lessons

    public int write(int letter) {
        if (!isWithin(letter, FIRST_LETTER, LAST_LETTER)) {
            return BAD;
        }
        if (text.isFull()) {
            return FULL;
        }
        text.add(letter);
        return text.size();
    }

    public int wipe() {
        int length = text.size();
        text.clear();
        return length;
    }

    public int fault() {
        return reader.readAll();
    }

    public int lay() {
        if (reader.readAll() != NONE || told.kinds() == 0) {
            return NO;
        }
        laid.copyFrom(told);
        memory.clear();
        past.clear();
        kept.clear();
        seenThings.clear();
        return laid.kinds();
    }

    public int kind(int k, int what) {
        if (!laid.isKind(k)) {
            return BAD;
        }
        switch (what) {
            case 0: return laid.marks.at(k);
            case 1: return laid.right.at(k);
            case 2: return laid.spoilers.at(k);
            case 3: return laid.worth.at(k);
            case 4: return laid.chance.at(k);
            case 5: return memory.handed.at(k);
            default: return BAD;
        }
    }

    public int errand(int place) {
        if (place < 0) {
            return BAD;
        }
        return place < laid.errands.size() ? laid.errands.at(place) : NONE;
    }

    public int word(int w) {
        if (w < 0) {
            return BAD;
        }
        int most = memory.words.size();
        return w < most ? memory.words.at(most - 1 - w) : NONE;
    }

    public int unlike(int k, int j) {
        if (!laid.isKind(k) || !laid.isKind(j)) {
            return BAD;
        }
        return marksApart(laid.marks.at(k), laid.marks.at(j));
    }

    // ---- days

    public int does(int sort, int k) {
        return isSort(sort) && laid.isKind(k) ? learnerNow(sort).willDo(k) : BAD;
    }

    public int hand(int k) {
        if (!laid.isKind(k)) {
            return BAD;
        }
        int doing = learnerNow(laid.sort).willDo(k);
        past.add(memory);
        memory.addDay(laid, k, doing);
        return laid.outcome(k, doing);
    }

    public int teach(int k, int doing) {
        if (!laid.isKind(k) || !isDoing(doing)) {
            return BAD;
        }
        past.add(memory);
        memory.addWord(k, doing);
        return memory.words.size();
    }

    public int undo() {
        if (past.size() == 0) {
            return NO;
        }
        past.takeLast(memory);
        return past.size();
    }

    public int tell(int k) {
        if (!laid.isKind(k)) {
            return BAD;
        }
        if (laid.errands.isFull()) {
            return FULL;
        }
        laid.errands.add(k);
        return laid.errands.size();
    }

    public int noRow() {
        int length = laid.errands.size();
        laid.errands.clear();
        seenThings.clear();
        return length;
    }

    // ---- rows

    public int run(int sort, int k, int what) {
        if (!isSort(sort) || !isWithin(k, -1, laid.errands.size() - 1) || !isWithin(what, 0, 1)) {
            return BAD;
        }
        Learner he = learnerNow(sort);
        if (k == -1) {
            return what == 0 ? he.lossOfRow() : he.firstGoodOfRow();
        }
        for (int place = 0; place < k; place++) {
            he.day(laid.errands.at(place));
        }
        int thing = laid.errands.at(k);
        int doing = he.willDo(thing);
        return what == 0 ? doing : laid.outcome(thing, doing);
    }

    public int round() {
        if (laid.errands.size() == 0) {
            return NONE;
        }
        fillTimes(learnerNow(laid.sort));
        for (int p = 1; p <= LONGEST_ROUND; p++) {
            if (comesRoundAfter(p)) {
                return p;
            }
        }
        return NONE;
    }

    public int order(int place) {
        int length = laid.errands.size();
        if (!isWithin(place, -1, length - 1)) {
            return BAD;
        }
        if (length > ORDERED) {
            return NO;
        }
        orders.seek(learnerNow(laid.sort));
        return place == -1 ? orders.least : orders.best.at(place);
    }

    public int best(int what) {
        if (!isWithin(what, 0, 1)) {
            return BAD;
        }
        int word = NONE;
        int least = learnerNow(laid.sort).lossOfRow();
        for (int k = 0; k < laid.kinds(); k++) {
            for (int doing = 0; doing < DOINGS; doing++) {
                Learner he = learnerNow(laid.sort);
                he.hear(k, doing);
                int lost = he.lossOfRow();
                if (lost < least) {
                    least = lost;
                    word = wordOf(k, doing);
                }
            }
        }
        return what == 0 ? word : least;
    }

    // ---- who he is

    public int seen(int k, int doing) {
        if (!isWithin(k, 0, laid.errands.size() - 1) || !isDoing(doing)) {
            return BAD;
        }
        if (seenThings.isFull()) {
            return FULL;
        }
        seenThings.add(DOINGS * k + doing);
        return seenThings.size();
    }

    public int forget() {
        int most = seenThings.size();
        seenThings.clear();
        return most;
    }

    public int fits() {
        int bits = 0;
        for (int sort = 0; sort < SORTS; sort++) {
            if (canBe(sort, laid.first)) {
                bits |= 1 << sort;
            }
        }
        return bits;
    }

    public int firsts(int sort) {
        if (!isSort(sort)) {
            return BAD;
        }
        int bits = 0;
        for (int first = 0; first < DOINGS; first++) {
            if (canBe(sort, first)) {
                bits |= 1 << first;
            }
        }
        return bits;
    }

    public int ask(int what) {
        if (!isWithin(what, 0, 1)) {
            return BAD;
        }
        int sorts = fits();
        if (sorts == 0) {
            return NONE;
        }
        int lowest = 0;
        int fewest = SORTS + 1;
        for (int k = 0; k < laid.kinds(); k++) {
            int most = mostAlike(sorts, k);
            if (most < fewest) {
                fewest = most;
                lowest = k;
            }
        }
        return what == 0 ? lowest : fewest;
    }

    // ---- rules

    public int rule(int doing) {
        if (!isDoing(doing)) {
            return BAD;
        }
        int right = NONE;
        int fewest = MORE_THAN_ANY;
        for (int set = 0; set < MARK_SETS; set++) {
            int marks = Integer.bitCount(set);
            if (marks < fewest && firstWrong(doing, set, false) == NONE && firstWrong(doing, set, true) == NONE) {
                fewest = marks;
                right = set;
            }
        }
        return right;
    }

    public int wrong(int doing, int marks, boolean narrow) {
        if (!isDoing(doing) || !isWithin(marks, 0, MARK_SETS - 1)) {
            return BAD;
        }
        return firstWrong(doing, marks, narrow);
    }

    // ---- turns, means, years

    public int byTurns(int n) {
        return isWithin(n, 0, TURNS) ? lossAtMothersTurn(laid, learnerNow(laid.sort), n, 0) : BAD;
    }

    public int mean(int n, int part) {
        if (!isWithin(n, 0, MEAN_DAYS) || !isWithin(part, 0, 1)) {
            return BAD;
        }
        int all = laid.allChances();
        int above = lossByChances(laid, learnerNow(laid.sort), n, all);
        int below = power(all, n);
        int divisor = greatestDivisor(above, below);
        if (divisor == 0) {
            return 0;
        }
        return part == 0 ? above / divisor : below / divisor;
    }

    public int year(int z, int n, int what) {
        if (!isWithin(z, 0, YEARS) || !isWithin(n, 1, YEAR_DAYS) || !isWithin(what, 0, 1)) {
            return BAD;
        }
        Learner he = learnerNow(laid.sort);
        int lost = 0;
        int good = 0;
        for (int day = 0; day < n; day++) {
            int thing = drawnKind(z, day);
            int doing = he.day(thing);
            lost += laid.lost(thing, doing);
            good += laid.outcome(thing, doing) == GOOD ? 1 : 0;
        }
        return what == 0 ? lost : good;
    }

    public int keep() {
        if (kept.isFull()) {
            return FULL;
        }
        kept.add(memory);
        return kept.size();
    }

    public int back() {
        if (kept.size() == 0) {
            return NO;
        }
        kept.takeLast(memory);
        past.clear();
        return kept.size();
    }

    public int count(int what) {
        switch (what) {
            case 0: return laid.kinds();
            case 1: return laid.sort;
            case 2: return laid.first;
            case 3: return laid.errands.size();
            case 4: return memory.words.size();
            case 5: return memory.days;
            case 6: return memory.lost;
            case 7: return memory.good;
            case 8: return seenThings.size();
            case 9: return past.size();
            case 10: return kept.size();
            case 11: return text.size();
            default: return BAD;
        }
    }

    // ---- what the calls share

    private static boolean isWithin(int number, int least, int most) {
        return number >= least && number <= most;
    }

    private static boolean isSort(int sort) {
        return isWithin(sort, 0, SORTS - 1);
    }

    private static boolean isDoing(int doing) {
        return isWithin(doing, 0, DOINGS - 1);
    }

    private static int wordOf(int kind, int doing) {
        return DOINGS * kind + doing;
    }

    private static int marksApart(int marks, int others) {
        return Integer.bitCount(marks ^ others);
    }

    private Learner learnerNow(int sort) {
        learner.begin(sort, laid.first);
        learner.hearAll(memory.words);
        return learner;
    }

    private void fillTimes(Learner he) {
        times.clear();
        for (int time = 0; time < TIMES; time++) {
            int doings = he.doingsOfRow();
            if (time >= TIMES - LAST_TIMES) {
                times.add(doings);
            }
        }
    }

    private boolean comesRoundAfter(int p) {
        for (int i = 0; i < p; i++) {
            int doings = times.at(i);
            if (times.at(p + i) != doings || times.at(2 * p + i) != doings) {
                return false;
            }
        }
        return true;
    }

    private boolean canBe(int sort, int first) {
        learner.begin(sort, first);
        for (int place = 0; place < laid.errands.size(); place++) {
            int doing = learner.day(laid.errands.at(place));
            if (speaksAgainst(place, doing)) {
                return false;
            }
        }
        return true;
    }

    /** Whether something else than this DOING was SEEN at this place. */
    private boolean speaksAgainst(int place, int doing) {
        for (int i = 0; i < seenThings.size(); i++) {
            int thing = seenThings.at(i);
            if (thing / DOINGS == place && thing % DOINGS != doing) {
                return true;
            }
        }
        return false;
    }

    /** Of these SORTS (bits), how many at the worst would do the same with this KIND. */
    private int mostAlike(int sorts, int kind) {
        int most = 0;
        alike.fill(DOINGS, 0);
        for (int sort = 0; sort < SORTS; sort++) {
            if ((sorts >> sort & 1) == 1) {
                int doing = learnerNow(sort).willDo(kind);
                alike.put(doing, alike.at(doing) + 1);
                most = Math.max(most, alike.at(doing));
            }
        }
        return most;
    }

    private int firstWrong(int doing, int set, boolean narrow) {
        for (int k = 0; k < laid.kinds(); k++) {
            boolean holds = (laid.marks.at(k) & set) == set;
            boolean isRight = laid.right.at(k) == doing;
            if (narrow ? isRight && !holds : holds && !isRight) {
                return k;
            }
        }
        return NONE;
    }

    private int drawnKind(int z, int day) {
        int kinds = laid.kinds();
        if (kinds <= 0) {
            return 0;
        }
        long x = 7919L * z + 6151L * day + 1;
        return (int) (x * x % 65521 / 8 % kinds);
    }

    /** What is lost in these rounds; once it is no more than enough, the rest is not looked at. */
    private static int lossAtMothersTurn(Lesson lesson, Learner he, int rounds, int enough) {
        if (rounds <= 0) {
            return 0;
        }
        int least = lossAtOthersTurn(lesson, he, rounds, MORE_THAN_ANY);
        for (int word = 0; word < lesson.kinds() * DOINGS && least > enough; word++) {
            Learner taught = he.stepDown();
            if (taught == null) {
                return least;
            }
            taught.hear(word / DOINGS, word % DOINGS);
            least = Math.min(least, lossAtOthersTurn(lesson, taught, rounds, least));
        }
        return least;
    }

    /** What is lost when the other one hands the next thing; once it is enough, the rest is not looked at. */
    private static int lossAtOthersTurn(Lesson lesson, Learner he, int rounds, int enough) {
        int most = 0;
        for (int k = 0; k < lesson.kinds() && most < enough; k++) {
            int lost = lesson.lost(k, he.willDo(k));
            Learner after = rounds > 1 ? he.stepDown() : null;
            if (after != null) {
                after.day(k);
                lost += lossAtMothersTurn(lesson, after, rounds - 1, Math.max(0, most - lost));
            }
            most = Math.max(most, lost);
        }
        return most;
    }

    /** What is lost in these DAYS, over all ways they can come, each as often as its CHANCES say. */
    private static int lossByChances(Lesson lesson, Learner he, int days, int all) {
        if (days <= 0) {
            return 0;
        }
        int sum = 0;
        for (int k = 0; k < lesson.kinds(); k++) {
            int lost = lesson.lost(k, he.willDo(k)) * power(all, days - 1);
            Learner after = days > 1 ? he.stepDown() : null;
            if (after != null) {
                after.day(k);
                lost += lossByChances(lesson, after, days - 1, all);
            }
            sum += lesson.chance.at(k) * lost;
        }
        return sum;
    }

    private static int power(int base, int exponent) {
        int product = 1;
        for (int i = 0; i < exponent; i++) {
            product *= base;
        }
        return product;
    }

    private static int greatestDivisor(int a, int b) {
        int high = a;
        int low = b;
        // Euclid's numbers halve every two steps: 64 are more than an int can need.
        for (int i = 0; i < 64 && low != 0; i++) {
            int rest = high % low;
            high = low;
            low = rest;
        }
        return high;
    }

    /** Numbers one behind the other, as many as there is room for; no place outside is ever touched. */
    private static final class Numbers {
        private final int[] items;
        private int size;

        Numbers(int most) {
            items = new int[Math.max(0, most)];
        }

        int size() {
            return size;
        }

        boolean isFull() {
            return size >= items.length;
        }

        int at(int place) {
            return place >= 0 && place < size && place < items.length ? items[place] : 0;
        }

        void put(int place, int item) {
            if (place >= 0 && place < size && place < items.length) {
                items[place] = item;
            }
        }

        void add(int item) {
            if (size >= 0 && size < items.length) {
                items[size] = item;
                size++;
            }
        }

        void clear() {
            size = 0;
        }

        void fill(int length, int item) {
            size = 0;
            for (int i = 0; i < length; i++) {
                add(item);
            }
        }

        void dropFirst() {
            for (int i = 1; i < size; i++) {
                put(i - 1, at(i));
            }
            size = Math.max(0, size - 1);
        }

        void copyFrom(Numbers other) {
            size = Math.max(0, Math.min(other.size, Math.min(items.length, other.items.length)));
            System.arraycopy(other.items, 0, items, 0, size);
        }
    }

    /** What a TEXT tells: KINDS, the LEARNER, THE ROW. */
    private static final class Lesson {
        private final Numbers marks = new Numbers(KINDS);
        private final Numbers right = new Numbers(KINDS);
        private final Numbers spoilers = new Numbers(KINDS);
        private final Numbers worth = new Numbers(KINDS);
        private final Numbers chance = new Numbers(KINDS);
        private final Numbers errands = new Numbers(ERRANDS);
        private int sort;
        private int first;

        int kinds() {
            return marks.size();
        }

        boolean isKind(int k) {
            return k >= 0 && k < marks.size();
        }

        int allChances() {
            int all = 0;
            for (int k = 0; k < chance.size(); k++) {
                all += chance.at(k);
            }
            return all;
        }

        int outcome(int kind, int doing) {
            if (doing == right.at(kind)) {
                return GOOD;
            }
            return (spoilers.at(kind) >> doing & 1) == 1 ? SPOILT : NOTHING;
        }

        int lost(int kind, int doing) {
            return outcome(kind, doing) == SPOILT ? worth.at(kind) : 0;
        }

        void clear() {
            marks.clear();
            right.clear();
            spoilers.clear();
            worth.clear();
            chance.clear();
            errands.clear();
            sort = 0;
            first = 0;
        }

        void copyFrom(Lesson other) {
            marks.copyFrom(other.marks);
            right.copyFrom(other.right);
            spoilers.copyFrom(other.spoilers);
            worth.copyFrom(other.worth);
            chance.copyFrom(other.chance);
            errands.copyFrom(other.errands);
            sort = other.sort;
            first = other.first;
        }
    }

    /** Reads THE TEXT, ITEM by ITEM, into a lesson. */
    private static final class Reader {
        private final Numbers text;
        private final Lesson lesson;
        private final Numbers numbers = new Numbers(5);

        Reader(Numbers text, Lesson lesson) {
            this.text = text;
            this.lesson = lesson;
        }

        /** The place of the FAULT; NONE, if all of THE TEXT is in the lesson. */
        int readAll() {
            lesson.clear();
            int place = 0;
            for (int items = 0; items < LETTERS && place < text.size(); items++) {
                int behind = readItem(place);
                if (behind == NONE) {
                    return place;
                }
                place = behind;
            }
            return NONE;
        }

        /** The place behind the ITEM that begins here; NONE, if it is not so. */
        private int readItem(int place) {
            int letter = text.at(place);
            int length = numbersBehind(letter);
            int next = place + 1;
            numbers.clear();
            for (int i = 0; i < length; i++) {
                next = readNumber(next);
                if (next == NONE || text.at(next) != (i == length - 1 ? ';' : ',')) {
                    return NONE;
                }
                next++;
            }
            return takeItem(letter) ? next : NONE;
        }

        private static int numbersBehind(int letter) {
            switch (letter) {
                case 'k': return 5;
                case 'l':
                case 'f':
                case 'e': return 1;
                default: return 0;
            }
        }

        /** The place behind the one or two figures that begin here; NONE, if there is no figure. */
        private int readNumber(int place) {
            if (!isFigure(text.at(place))) {
                return NONE;
            }
            int number = text.at(place) - '0';
            int second = text.at(place + 1);
            boolean hasTwo = isFigure(second);
            numbers.add(hasTwo ? 10 * number + second - '0' : number);
            return hasTwo ? place + 2 : place + 1;
        }

        private static boolean isFigure(int letter) {
            return letter >= '0' && letter <= '9';
        }

        private boolean takeItem(int letter) {
            int number = numbers.at(0);
            switch (letter) {
                case 'k':
                    return takeKind();
                case 'l':
                    lesson.sort = number;
                    return isSort(number);
                case 'f':
                    lesson.first = number;
                    return isDoing(number);
                case 'e':
                    return takeErrand(number);
                default:
                    return false;
            }
        }

        private boolean takeKind() {
            if (lesson.marks.isFull() || !isWithin(numbers.at(0), 0, MARK_SETS - 1) || !isDoing(numbers.at(1))
                    || !isWithin(numbers.at(2), 0, 63) || !isWithin(numbers.at(3), 0, 20)
                    || !isWithin(numbers.at(4), 1, 9)) {
                return false;
            }
            lesson.marks.add(numbers.at(0));
            lesson.right.add(numbers.at(1));
            lesson.spoilers.add(numbers.at(2));
            lesson.worth.add(numbers.at(3));
            lesson.chance.add(numbers.at(4));
            return true;
        }

        private boolean takeErrand(int kind) {
            if (!lesson.isKind(kind) || lesson.errands.isFull()) {
                return false;
            }
            lesson.errands.add(kind);
            return true;
        }
    }

    /** All that DAYS and TEACHING change. */
    private static final class Memory {
        private final Numbers words = new Numbers(WORDS);
        private final Numbers handed = new Numbers(KINDS);
        private int days;
        private int lost;
        private int good;

        Memory() {
            handed.fill(KINDS, 0);
        }

        void clear() {
            words.clear();
            handed.fill(KINDS, 0);
            days = 0;
            lost = 0;
            good = 0;
        }

        void addWord(int kind, int doing) {
            if (words.isFull()) {
                words.dropFirst();
            }
            words.add(wordOf(kind, doing));
        }

        void addDay(Lesson lesson, int kind, int doing) {
            days++;
            handed.put(kind, handed.at(kind) + 1);
            lost += lesson.lost(kind, doing);
            if (lesson.outcome(kind, doing) == GOOD) {
                good++;
            } else {
                addWord(kind, lesson.right.at(kind));
            }
        }

        void copyFrom(Memory other) {
            words.copyFrom(other.words);
            handed.copyFrom(other.handed);
            days = other.days;
            lost = other.lost;
            good = other.good;
        }
    }

    /** Copies of a memory, the latest last; where there is no room, the oldest makes room. */
    private static final class Shelf {
        private final Memory[] places;
        private int size;

        Shelf(int most) {
            places = new Memory[Math.max(0, most)];
            for (int i = 0; i < places.length; i++) {
                places[i] = new Memory();
            }
        }

        int size() {
            return size;
        }

        boolean isFull() {
            return size >= places.length;
        }

        void clear() {
            size = 0;
        }

        void add(Memory memory) {
            if (isFull()) {
                dropOldest();
            }
            Memory place = placeAt(size);
            if (place != null) {
                place.copyFrom(memory);
                size++;
            }
        }

        void takeLast(Memory memory) {
            Memory place = placeAt(size - 1);
            if (place != null) {
                memory.copyFrom(place);
                size--;
            }
        }

        private Memory placeAt(int place) {
            return place >= 0 && place < places.length ? places[place] : null;
        }

        /** The oldest copy's object goes behind the others, to be written over: none is made anew. */
        private void dropOldest() {
            if (places.length == 0) {
                return;
            }
            Memory oldest = places[0];
            for (int i = 1; i < places.length; i++) {
                places[i - 1] = places[i];
            }
            places[places.length - 1] = oldest;
            size = Math.max(0, size - 1);
        }
    }

    /**
     * A LEARNER in thought. Of the WORDS of one KIND only the latest can ever matter to him, so that one is all
     * he remembers, with its number: it tells when the WORD is no more among those that are kept.
     */
    private static final class Learner {
        private final Lesson lesson;
        private final Learner below;
        private final Numbers latest = new Numbers(KINDS);
        private final Numbers latestDoing = new Numbers(KINDS);
        private int sort;
        private int first;
        private int heard;
        private int last;
        private int before;

        Learner(Lesson lesson, Learner below) {
            this.lesson = lesson;
            this.below = below;
        }

        /** From here on he is of this SORT, and heard nothing. */
        void begin(int newSort, int newFirst) {
            sort = newSort;
            first = newFirst;
            heard = 0;
            last = newFirst;
            before = newFirst;
            latest.fill(KINDS, 0);
            latestDoing.fill(KINDS, newFirst);
        }

        void hear(int kind, int doing) {
            heard++;
            before = last;
            last = doing;
            latest.put(kind, heard);
            latestDoing.put(kind, doing);
        }

        void hearAll(Numbers words) {
            for (int i = 0; i < words.size(); i++) {
                hear(words.at(i) / DOINGS, words.at(i) % DOINGS);
            }
        }

        int willDo(int kind) {
            switch (sort) {
                case LAST: return last;
                case BEFORE: return before;
                case LIKEST: return likestDoing(kind);
                case SAME: return keeps(latest.at(kind)) ? latestDoing.at(kind) : first;
                default: return first;
            }
        }

        private boolean keeps(int number) {
            return number > 0 && number > heard - WORDS;
        }

        private int likestDoing(int kind) {
            int marks = lesson.marks.at(kind);
            int doing = first;
            int fewest = MORE_THAN_ANY;
            int latestOfThese = 0;
            for (int j = 0; j < lesson.kinds(); j++) {
                int number = latest.at(j);
                if (keeps(number)) {
                    int apart = marksApart(marks, lesson.marks.at(j));
                    if (apart < fewest || apart == fewest && number > latestOfThese) {
                        fewest = apart;
                        latestOfThese = number;
                        doing = latestDoing.at(j);
                    }
                }
            }
            return doing;
        }

        /** A DAY: what he does. */
        int day(int kind) {
            int doing = willDo(kind);
            if (lesson.outcome(kind, doing) != GOOD) {
                hear(kind, lesson.right.at(kind));
            }
            return doing;
        }

        int lossOfRow() {
            int lost = 0;
            for (int place = 0; place < lesson.errands.size(); place++) {
                int thing = lesson.errands.at(place);
                lost += lesson.lost(thing, day(thing));
            }
            return lost;
        }

        int firstGoodOfRow() {
            for (int place = 0; place < lesson.errands.size(); place++) {
                int thing = lesson.errands.at(place);
                if (lesson.outcome(thing, day(thing)) == GOOD) {
                    return place;
                }
            }
            return NONE;
        }

        /** All that he does with THE ROW, as one number: ten figures to the base of six are none too large. */
        int doingsOfRow() {
            int doings = 0;
            for (int place = 0; place < lesson.errands.size(); place++) {
                doings = DOINGS * doings + day(lesson.errands.at(place));
            }
            return doings;
        }

        /** One who heard the same, to try things with; null, where no search goes so deep. */
        Learner stepDown() {
            if (below != null) {
                below.copyFrom(this);
            }
            return below;
        }

        private void copyFrom(Learner other) {
            sort = other.sort;
            first = other.first;
            heard = other.heard;
            last = other.last;
            before = other.before;
            latest.copyFrom(other.latest);
            latestDoing.copyFrom(other.latestDoing);
        }
    }

    /** Looks for the row by which least is lost. */
    private static final class Orders {
        private final Lesson lesson;
        private final Numbers left = new Numbers(KINDS);
        private final Numbers tried = new Numbers(ORDERED);
        private final Numbers best = new Numbers(ORDERED);
        private int least;

        Orders(Lesson lesson) {
            this.lesson = lesson;
        }

        void seek(Learner he) {
            left.fill(KINDS, 0);
            for (int place = 0; place < lesson.errands.size(); place++) {
                addLeft(lesson.errands.at(place), 1);
            }
            tried.fill(lesson.errands.size(), 0);
            least = MORE_THAN_ANY;
            tryFrom(this, he, 0, 0);
        }

        private void addLeft(int kind, int more) {
            left.put(kind, left.at(kind) + more);
        }

        /** The lower KINDS are tried first, so a later row has to be less, not as much, to be the best. */
        private static void tryFrom(Orders orders, Learner he, int place, int lost) {
            if (lost >= orders.least) {
                return;
            }
            if (place >= orders.tried.size()) {
                orders.least = lost;
                orders.best.copyFrom(orders.tried);
                return;
            }
            for (int k = 0; k < orders.lesson.kinds(); k++) {
                Learner after = orders.left.at(k) > 0 ? he.stepDown() : null;
                if (after != null) {
                    orders.addLeft(k, -1);
                    orders.tried.put(place, k);
                    tryFrom(orders, after, place + 1, lost + orders.lesson.lost(k, after.day(k)));
                    orders.addLeft(k, 1);
                }
            }
        }
    }
}
