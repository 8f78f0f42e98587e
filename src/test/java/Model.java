import java.util.ArrayList;
import java.util.Arrays;
import java.util.List;
import java.util.TreeSet;
import java.util.regex.Matcher;
import java.util.regex.Pattern;

/** The document once more, as plainly as can be: whole copies, whole scans, nothing cut short. */
final class Model {
    static final int BAD = -1, NO = -2, FULL = -3, NONE = -4;

    private static final Pattern ITEM = Pattern.compile(
            "(k)(\\d\\d?),(\\d\\d?),(\\d\\d?),(\\d\\d?),(\\d\\d?);|([lfe])(\\d\\d?);");

    private static final class Told {
        List<int[]> kinds = new ArrayList<>();
        List<Integer> row = new ArrayList<>();
        int sort;
        int first;
        int fault = NONE;
    }

    private static final class State {
        List<int[]> words = new ArrayList<>();
        int[] handed = new int[6];
        int days;
        int lost;
        int good;

        State copy() {
            State other = new State();
            other.words = new ArrayList<>(words);
            other.handed = handed.clone();
            other.days = days;
            other.lost = lost;
            other.good = good;
            return other;
        }
    }

    private String text = "";
    private Told laid = read("k1,0,62,3,2;k3,1,13,5,1;k6,2,3,8,1;k24,3,63,4,3;e0;e1;e2;e3;e1;");
    private State now = new State();
    private List<State> past = new ArrayList<>();
    private List<State> kept = new ArrayList<>();
    private List<int[]> seen = new ArrayList<>();

    private static Told read(String text) {
        Told told = new Told();
        Matcher item = ITEM.matcher(text);
        int place = 0;
        while (place < text.length()) {
            item.region(place, text.length());
            if (!item.lookingAt() || !take(told, item)) {
                told.fault = place;
                return told;
            }
            place = item.end();
        }
        return told;
    }

    private static boolean take(Told told, Matcher item) {
        if (item.group(1) != null) {
            int[] kind = new int[5];
            for (int i = 0; i < 5; i++) {
                kind[i] = Integer.parseInt(item.group(2 + i));
            }
            told.kinds.add(kind);
            return told.kinds.size() <= 6 && kind[0] <= 31 && kind[1] <= 5 && kind[2] <= 63 && kind[3] <= 20
                    && kind[4] >= 1 && kind[4] <= 9;
        }
        int number = Integer.parseInt(item.group(8));
        switch (item.group(7)) {
            case "l":
                told.sort = number;
                return number <= 3;
            case "f":
                told.first = number;
                return number <= 5;
            default:
                told.row.add(number);
                return number < told.kinds.size() && told.row.size() <= 10;
        }
    }

    private int does(List<int[]> all, int sort, int first, int k) {
        List<int[]> words = all.subList(Math.max(0, all.size() - 40), all.size());
        int n = words.size();
        if (sort == 0) {
            return n >= 1 ? words.get(n - 1)[1] : first;
        }
        if (sort == 1) {
            return n >= 2 ? words.get(n - 2)[1] : first;
        }
        int doing = first;
        int fewest = 99;
        for (int[] word : words) {
            int apart = apart(k, word[0]);
            if (sort == 3 ? word[0] == k : apart <= fewest) {
                fewest = apart;
                doing = word[1];
            }
        }
        return doing;
    }

    private int apart(int k, int j) {
        int apart = 0;
        for (int mark = 1; mark < 32; mark *= 2) {
            if ((laid.kinds.get(k)[0] & mark) != (laid.kinds.get(j)[0] & mark)) {
                apart++;
            }
        }
        return apart;
    }

    private int goes(int k, int doing) {
        int[] kind = laid.kinds.get(k);
        return doing == kind[1] ? 0 : (kind[2] & (1 << doing)) != 0 ? 1 : 2;
    }

    private int lost(int k, int doing) {
        return goes(k, doing) == 1 ? laid.kinds.get(k)[3] : 0;
    }

    /** What he does with these things, handed one behind the other; the words get longer. */
    private int[] doings(List<int[]> words, int sort, int first, List<Integer> things) {
        int[] doings = new int[things.size()];
        for (int i = 0; i < doings.length; i++) {
            int k = things.get(i);
            doings[i] = does(words, sort, first, k);
            if (goes(k, doings[i]) != 0) {
                words.add(new int[] {k, laid.kinds.get(k)[1]});
            }
        }
        return doings;
    }

    private int lostAll(List<int[]> words, List<Integer> things) {
        int[] doings = doings(new ArrayList<>(words), laid.sort, laid.first, things);
        int lost = 0;
        for (int i = 0; i < doings.length; i++) {
            lost += lost(things.get(i), doings[i]);
        }
        return lost;
    }

    private static boolean out(int number, int least, int most) {
        return number < least || number > most;
    }

    private boolean noKind(int k) {
        return out(k, 0, laid.kinds.size() - 1);
    }

    int write(int letter) {
        if (out(letter, 32, 126)) {
            return BAD;
        }
        if (text.length() == 200) {
            return FULL;
        }
        text += (char) letter;
        return text.length();
    }

    int wipe() {
        int n = text.length();
        text = "";
        return n;
    }

    int fault() {
        return read(text).fault;
    }

    int lay() {
        Told told = read(text);
        if (told.fault != NONE || told.kinds.isEmpty()) {
            return NO;
        }
        laid = told;
        now = new State();
        past.clear();
        kept.clear();
        seen.clear();
        return laid.kinds.size();
    }

    int kind(int k, int what) {
        if (noKind(k) || out(what, 0, 5)) {
            return BAD;
        }
        return what == 5 ? now.handed[k] : laid.kinds.get(k)[what];
    }

    int errand(int place) {
        return place < 0 ? BAD : place >= laid.row.size() ? NONE : laid.row.get(place);
    }

    int word(int w) {
        if (w < 0) {
            return BAD;
        }
        if (w >= Math.min(40, now.words.size())) {
            return NONE;
        }
        int[] word = now.words.get(now.words.size() - 1 - w);
        return 6 * word[0] + word[1];
    }

    int unlike(int k, int j) {
        return noKind(k) || noKind(j) ? BAD : apart(k, j);
    }

    int does(int sort, int k) {
        return out(sort, 0, 3) || noKind(k) ? BAD : does(now.words, sort, laid.first, k);
    }

    private void remember() {
        past.add(now.copy());
        if (past.size() > 8) {
            past.remove(0);
        }
    }

    int hand(int k) {
        if (noKind(k)) {
            return BAD;
        }
        remember();
        int doing = doings(now.words, laid.sort, laid.first, Arrays.asList(k))[0];
        now.days++;
        now.handed[k]++;
        now.lost += lost(k, doing);
        now.good += goes(k, doing) == 0 ? 1 : 0;
        return goes(k, doing);
    }

    int teach(int k, int doing) {
        if (noKind(k) || out(doing, 0, 5)) {
            return BAD;
        }
        remember();
        now.words.add(new int[] {k, doing});
        return Math.min(40, now.words.size());
    }

    int undo() {
        if (past.isEmpty()) {
            return NO;
        }
        now = past.remove(past.size() - 1);
        return past.size();
    }

    int tell(int k) {
        if (noKind(k)) {
            return BAD;
        }
        if (laid.row.size() == 10) {
            return FULL;
        }
        laid.row.add(k);
        return laid.row.size();
    }

    int noRow() {
        int n = laid.row.size();
        laid.row.clear();
        seen.clear();
        return n;
    }

    int run(int sort, int k, int what) {
        if (out(sort, 0, 3) || out(k, -1, laid.row.size() - 1) || out(what, 0, 1)) {
            return BAD;
        }
        int[] doings = doings(new ArrayList<>(now.words), sort, laid.first, laid.row);
        if (k >= 0) {
            return what == 0 ? doings[k] : goes(laid.row.get(k), doings[k]);
        }
        int lost = 0;
        int firstGood = NONE;
        for (int i = doings.length - 1; i >= 0; i--) {
            lost += lost(laid.row.get(i), doings[i]);
            firstGood = goes(laid.row.get(i), doings[i]) == 0 ? i : firstGood;
        }
        return what == 0 ? lost : firstGood;
    }

    int round() {
        if (laid.row.isEmpty()) {
            return NONE;
        }
        List<int[]> words = new ArrayList<>(now.words);
        List<int[]> times = new ArrayList<>();
        for (int time = 0; time < 80; time++) {
            times.add(doings(words, laid.sort, laid.first, laid.row));
        }
        for (int p = 1; p <= 20; p++) {
            boolean same = true;
            for (int i = 20; i < 20 + p; i++) {
                same &= Arrays.equals(times.get(i), times.get(i + p));
                same &= Arrays.equals(times.get(i), times.get(i + 2 * p));
            }
            if (same) {
                return p;
            }
        }
        return NONE;
    }

    int order(int place) {
        if (out(place, -1, laid.row.size() - 1)) {
            return BAD;
        }
        if (laid.row.size() > 7) {
            return NO;
        }
        TreeSet<String> rows = new TreeSet<>();
        allRows(new ArrayList<>(laid.row), "", rows);
        int least = Integer.MAX_VALUE;
        List<Integer> best = null;
        for (String row : rows) {
            List<Integer> things = new ArrayList<>();
            for (char c : row.toCharArray()) {
                things.add(c - '0');
            }
            int lost = lostAll(now.words, things);
            if (lost < least) {
                least = lost;
                best = things;
            }
        }
        return place < 0 ? least : best.get(place);
    }

    private static void allRows(List<Integer> left, String begun, TreeSet<String> rows) {
        if (left.isEmpty()) {
            rows.add(begun);
        }
        for (int i = 0; i < left.size(); i++) {
            List<Integer> others = new ArrayList<>(left);
            int k = others.remove(i);
            allRows(others, begun + k, rows);
        }
    }

    private static List<int[]> with(List<int[]> words, int k, int doing) {
        List<int[]> more = new ArrayList<>(words);
        more.add(new int[] {k, doing});
        return more;
    }

    int best(int what) {
        if (out(what, 0, 1)) {
            return BAD;
        }
        int least = lostAll(now.words, laid.row);
        int word = NONE;
        for (int w = 0; w < 6 * laid.kinds.size(); w++) {
            int lost = lostAll(with(now.words, w / 6, w % 6), laid.row);
            if (lost < least) {
                least = lost;
                word = w;
            }
        }
        return what == 0 ? word : least;
    }

    int seen(int k, int doing) {
        if (out(k, 0, laid.row.size() - 1) || out(doing, 0, 5)) {
            return BAD;
        }
        if (seen.size() == 8) {
            return FULL;
        }
        seen.add(new int[] {k, doing});
        return seen.size();
    }

    int forget() {
        int n = seen.size();
        seen.clear();
        return n;
    }

    private boolean fits(int sort, int first) {
        int[] doings = doings(new ArrayList<>(), sort, first, laid.row);
        boolean fits = true;
        for (int[] one : seen) {
            fits &= doings[one[0]] == one[1];
        }
        return fits;
    }

    int fits() {
        int bits = 0;
        for (int sort = 0; sort < 4; sort++) {
            bits += fits(sort, laid.first) ? 1 << sort : 0;
        }
        return bits;
    }

    int firsts(int sort) {
        if (out(sort, 0, 3)) {
            return BAD;
        }
        int bits = 0;
        for (int first = 0; first < 6; first++) {
            bits += fits(sort, first) ? 1 << first : 0;
        }
        return bits;
    }

    int ask(int what) {
        if (out(what, 0, 1)) {
            return BAD;
        }
        if (fits() == 0) {
            return NONE;
        }
        int fewest = 9;
        int asked = -9;
        for (int k = 0; k < laid.kinds.size(); k++) {
            int[] alike = new int[6];
            for (int sort = 0; sort < 4; sort++) {
                if (fits(sort, laid.first)) {
                    alike[does(now.words, sort, laid.first, k)]++;
                }
            }
            int most = Arrays.stream(alike).max().getAsInt();
            if (most < fewest) {
                fewest = most;
                asked = k;
            }
        }
        return what == 0 ? asked : fewest;
    }

    int rule(int doing) {
        if (out(doing, 0, 5)) {
            return BAD;
        }
        for (int size = 0; size <= 5; size++) {
            for (int set = 0; set < 32; set++) {
                boolean right = Integer.bitCount(set) == size;
                for (int[] kind : laid.kinds) {
                    right &= (kind[1] == doing) == ((set & ~kind[0]) == 0);
                }
                if (right) {
                    return set;
                }
            }
        }
        return NONE;
    }

    int wrong(int doing, int marks, boolean narrow) {
        if (out(doing, 0, 5) || out(marks, 0, 31)) {
            return BAD;
        }
        for (int k = 0; k < laid.kinds.size(); k++) {
            boolean holds = (marks & ~laid.kinds.get(k)[0]) == 0;
            boolean isIt = laid.kinds.get(k)[1] == doing;
            if (holds != isIt && isIt == narrow) {
                return k;
            }
        }
        return NONE;
    }

    private int mother(List<int[]> words, int rounds) {
        if (rounds == 0) {
            return 0;
        }
        int least = other(words, rounds);
        for (int w = 0; w < 6 * laid.kinds.size(); w++) {
            least = Math.min(least, other(with(words, w / 6, w % 6), rounds));
        }
        return least;
    }

    private int other(List<int[]> words, int rounds) {
        int most = 0;
        for (int k = 0; k < laid.kinds.size(); k++) {
            List<int[]> after = new ArrayList<>(words);
            int doing = doings(after, laid.sort, laid.first, Arrays.asList(k))[0];
            most = Math.max(most, lost(k, doing) + mother(after, rounds - 1));
        }
        return most;
    }

    int byTurns(int n) {
        return out(n, 0, 2) ? BAD : mother(now.words, n);
    }

    int mean(int n, int part) {
        if (out(n, 0, 3) || out(part, 0, 1)) {
            return BAD;
        }
        int kinds = laid.kinds.size();
        int ways = (int) Math.pow(kinds, n);
        int above = 0;
        int below = 0;
        for (int way = 0; way < ways; way++) {
            List<Integer> things = new ArrayList<>();
            int weight = 1;
            for (int i = 0, rest = way; i < n; i++, rest /= kinds) {
                things.add(rest % kinds);
                weight *= laid.kinds.get(rest % kinds)[4];
            }
            above += weight * lostAll(now.words, things);
            below += weight;
        }
        for (int d = below; d > 1; d--) {
            if (above % d == 0 && below % d == 0) {
                above /= d;
                below /= d;
            }
        }
        return part == 0 ? above : below;
    }

    int year(int z, int n, int what) {
        if (out(z, 0, 9999) || out(n, 1, 60) || out(what, 0, 1)) {
            return BAD;
        }
        List<Integer> things = new ArrayList<>();
        for (int k = 0; k < n; k++) {
            java.math.BigInteger x = java.math.BigInteger.valueOf(7919L * z + 6151L * k + 1);
            int square = x.multiply(x).mod(java.math.BigInteger.valueOf(65521)).intValue();
            things.add(square / 8 % laid.kinds.size());
        }
        int[] doings = doings(new ArrayList<>(now.words), laid.sort, laid.first, things);
        int good = 0;
        for (int i = 0; i < n; i++) {
            good += goes(things.get(i), doings[i]) == 0 ? 1 : 0;
        }
        return what == 0 ? lostAll(now.words, things) : good;
    }

    int keep() {
        if (kept.size() == 2) {
            return FULL;
        }
        kept.add(now.copy());
        return kept.size();
    }

    int back() {
        if (kept.isEmpty()) {
            return NO;
        }
        now = kept.remove(kept.size() - 1);
        past.clear();
        return kept.size();
    }

    int count(int what) {
        int[] counts = {laid.kinds.size(), laid.sort, laid.first, laid.row.size(), Math.min(40, now.words.size()),
            now.days, now.lost, now.good, seen.size(), past.size(), kept.size(), text.length()};
        return out(what, 0, counts.length - 1) ? BAD : counts[what];
    }
}
