import java.math.BigInteger;
import java.util.ArrayList;
import java.util.Arrays;
import java.util.List;

/** The document told once more, slowly: it tries every row of gifts, every set of moths, every set of bolts. */
final class Model {
    static final class Cloth {
        int colour, smell, worth, holes = -1;

        Cloth copy() {
            Cloth c = new Cloth();
            c.colour = colour;
            c.smell = smell;
            c.worth = worth;
            c.holes = holes;
            return c;
        }
    }

    static final class State {
        List<Cloth> cloths = new ArrayList<>();
        List<Integer> breeds = new ArrayList<>();
        int[] tastes = {5, 5, 5, 5};
        int[] terms = {3, 10, 5};
        List<Integer> gifts = new ArrayList<>();
        List<Integer> moods = new ArrayList<>();

        State copy() {
            State s = new State();
            for (Cloth c : cloths) {
                s.cloths.add(c.copy());
            }
            s.breeds.addAll(breeds);
            s.tastes = tastes.clone();
            s.terms = terms.clone();
            s.gifts.addAll(gifts);
            s.moods.addAll(moods);
            return s;
        }
    }

    State s = new State();
    final State[] images = new State[2];
    final StringBuilder text = new StringBuilder();
    BigInteger above = BigInteger.ZERO;
    BigInteger below = BigInteger.ONE;
    final int[] refused = new int[3];

    private int refuse(int kind, int answer) {
        refused[kind]++;
        return answer;
    }

    private int bad() {
        return refuse(0, -2);
    }

    private static boolean in(int v, int least, int most) {
        return least <= v && v <= most;
    }

    int bolt(int colour, int smell, int worth) {
        if (!in(colour, 0, 3) || !in(smell, 0, 3) || !in(worth, 0, 99)) {
            return bad();
        }
        if (s.cloths.size() == 12) {
            return refuse(2, -4);
        }
        Cloth c = new Cloth();
        c.colour = colour;
        c.smell = smell;
        c.worth = worth;
        s.cloths.add(c);
        nothingGiven();
        return s.cloths.size() - 1;
    }

    private void nothingGiven() {
        s.gifts.clear();
        s.moods.clear();
    }

    int moth(int breed) {
        if (!in(breed, 0, 5)) {
            return bad();
        }
        if (s.breeds.size() == 4) {
            return refuse(2, -4);
        }
        s.breeds.add(breed);
        nothingGiven();
        return s.breeds.size() - 1;
    }

    int taste(int colour, int v) {
        if (!in(colour, 0, 3) || !in(v, 0, 9)) {
            return bad();
        }
        int was = s.tastes[colour];
        s.tastes[colour] = v;
        return was;
    }

    int put(int what, int v) {
        if (!in(what, 0, 2) || !(what == 0 ? in(v, 2, 6) : what == 1 ? in(v, 0, 99) : in(v, 1, 9))) {
            return bad();
        }
        int was = s.terms[what];
        s.terms[what] = v;
        if (what != 1) {
            nothingGiven();
        }
        return was;
    }

    private boolean isBolt(int b) {
        return in(b, 0, s.cloths.size() - 1);
    }

    private boolean isMoth(int m) {
        return in(m, 0, s.breeds.size() - 1);
    }

    private int hunger(int m, Cloth c, int smell) {
        return hungerOf(s.breeds.get(m), s.tastes[c.colour], c.colour, smell);
    }

    private int hungerOf(int breed, int taste, int colour, int smell) {
        switch (breed) {
            case 1: return smell == 3 ? 0 : hungerOf(0, taste, colour, smell);
            case 2: return 2 * hungerOf(0, taste, colour, smell);
            case 3: return hungerOf(2, taste, colour, smell) + (colour == 0 ? 5 : 0);
            case 4: return hungerOf(1, taste, colour, smell) + (smell == 1 ? 3 : 0);
            case 5: return hungerOf(2, taste, colour, smell) % 7;
            default: return taste;
        }
    }

    private int hunger(int m, int b) {
        Cloth c = s.cloths.get(b);
        return hunger(m, c, c.smell);
    }

    int appetite(int m, int b) {
        return isMoth(m) && isBolt(b) ? hunger(m, b) : bad();
    }

    int type(long v, int n) {
        if (!in(n, 1, 8)) {
            return bad();
        }
        if (text.length() + n > 200) {
            return refuse(2, -4);
        }
        String hex = String.format("%016x", v).substring(16 - 2 * n);
        for (int i = 0; i < n; i++) {
            text.append((char) Integer.parseInt(hex.substring(2 * i, 2 * i + 2), 16));
        }
        return text.length();
    }

    int clear() {
        int was = text.length();
        text.setLength(0);
        return was;
    }

    private static final List<String> WORDS = Arrays.asList("bolt", "moth", "taste", "each", "want", "mood", "holes");
    private static final int[] NUMBERS = {3, 1, 2, 1, 1, 1, 2};

    int read() {
        List<List<Integer>> items = new ArrayList<>();
        List<Integer> item = null;
        String t = text.toString();
        int i = 0;
        while (i < t.length()) {
            int end = i + 1;
            char c = t.charAt(i);
            boolean stands;
            if (c == ' ') {
                i++;
                continue;
            } else if (c >= 'a' && c <= 'z') {
                while (end < t.length() && t.charAt(end) >= 'a' && t.charAt(end) <= 'z') {
                    end++;
                }
                int word = WORDS.indexOf(t.substring(i, end));
                stands = item == null && word >= 0;
                item = new ArrayList<>(List.of(word));
            } else if (c >= '0' && c <= '9') {
                while (end < t.length() && t.charAt(end) >= '0' && t.charAt(end) <= '9') {
                    end++;
                }
                stands = item != null && end - i <= 2 && item.size() <= NUMBERS[item.get(0)];
                if (stands) {
                    item.add(Integer.parseInt(t.substring(i, end)));
                }
            } else {
                stands = c == ';' && item != null && item.size() == NUMBERS[item.get(0)] + 1;
                if (stands) {
                    items.add(item);
                    item = null;
                }
            }
            if (!stands) {
                return -10 - i;
            }
            i = end;
        }
        if (item != null) {
            return -10 - t.length();
        }
        return tell(items);
    }

    private int tell(List<List<Integer>> items) {
        Model fresh = new Model();
        for (int i = 0; i < items.size(); i++) {
            List<Integer> n = items.get(i);
            switch (n.get(0)) {
                case 0: fresh.bolt(n.get(1), n.get(2), n.get(3)); break;
                case 1: fresh.moth(n.get(1)); break;
                case 2: fresh.taste(n.get(1), n.get(2)); break;
                case 6: fresh.holes(n.get(1), n.get(2)); break;
                default: fresh.put(n.get(0) - 3, n.get(1));
            }
            if (fresh.refused[0] + fresh.refused[2] > 0) {
                return -1000 - i;
            }
        }
        s = fresh.s;
        return items.size();
    }

    private boolean pleases(int b) {
        int sum = 0;
        for (int m = 0; m < s.breeds.size(); m++) {
            sum += hunger(m, b);
        }
        return sum >= s.terms[1];
    }

    int pleased(int b) {
        return !isBolt(b) ? bad() : pleases(b) ? 1 : 0;
    }

    private int groups(int each) {
        int groups = 0;
        for (int b = 0; b < s.cloths.size(); b += each) {
            groups++;
        }
        return groups;
    }

    private int after(int mood, int gift) {
        int next = gift == 12 ? mood - 2 : pleases(gift) ? Math.min(9, mood + 1) : mood - 1;
        return Math.max(0, next);
    }

    /** Every row in the order of the document; the first of least worth, with its worth behind it; null. */
    private int[] row(int each) {
        int groups = groups(each);
        int[] best = null;
        int rows = 1;
        for (int g = 0; g < groups; g++) {
            rows *= each + 1;
        }
        for (int number = 0; number < rows; number++) {
            int[] row = new int[groups + 1];
            int rest = number;
            boolean is = true;
            for (int g = groups - 1; g >= 0; g--) {
                int which = rest % (each + 1);
                rest /= each + 1;
                row[g] = which == 0 ? 12 : g * each + which - 1;
                is &= row[g] == 12 || isBolt(row[g]);
            }
            int mood = s.terms[2];
            for (int g = 0; is && g < groups; g++) {
                mood = after(mood, row[g]);
                row[groups] += row[g] == 12 ? 0 : s.cloths.get(row[g]).worth;
                is &= mood > 0;
            }
            if (is && (best == null || row[groups] < best[groups])) {
                best = row;
            }
        }
        return best;
    }

    int cheapest(int group) {
        int groups = groups(s.terms[0]);
        if (!in(group, -1, groups - 1)) {
            return refuse(0, -10);
        }
        int[] row = row(s.terms[0]);
        return row == null ? -1 : row[group == -1 ? groups : group];
    }

    int number() {
        int best = -1;
        int least = Integer.MAX_VALUE;
        for (int n = 2; n <= 6; n++) {
            int[] row = row(n);
            if (row != null && row[row.length - 1] < least) {
                best = n;
                least = row[row.length - 1];
            }
        }
        return best;
    }

    private void fraction(BigInteger a, BigInteger b) {
        above = a.divide(a.gcd(b));
        below = b.divide(a.gcd(b));
    }

    int stands() {
        int[] row = row(s.terms[0]);
        if (row == null) {
            return refuse(1, -3);
        }
        BigInteger a = BigInteger.ONE;
        BigInteger b = BigInteger.ONE;
        int mood = s.terms[2];
        for (int g = 0; g < row.length - 1; g++) {
            a = a.multiply(BigInteger.valueOf(20 - (10 - mood)));
            b = b.multiply(BigInteger.valueOf(20));
            mood = after(mood, row[g]);
        }
        fraction(a, b);
        return 1;
    }

    private int mood() {
        return s.moods.isEmpty() ? s.terms[2] : s.moods.get(s.moods.size() - 1);
    }

    int give(int b) {
        boolean next = mood() > 0 && s.gifts.size() < groups(s.terms[0]);
        if (b != -1 && !isBolt(b) || b != -1 && next && b / s.terms[0] != s.gifts.size()) {
            return bad();
        }
        if (!next) {
            return refuse(1, -3);
        }
        int mood = after(mood(), b == -1 ? 12 : b);
        s.gifts.add(b == -1 ? 12 : b);
        s.moods.add(mood);
        return mood;
    }

    int undo() {
        if (s.gifts.isEmpty()) {
            return refuse(1, -3);
        }
        s.gifts.remove(s.gifts.size() - 1);
        s.moods.remove(s.moods.size() - 1);
        return 1;
    }

    int now(int what) {
        int bits = 0;
        int worth = 0;
        for (int g : s.gifts) {
            if (g != 12) {
                bits += 1 << g;
                worth += s.cloths.get(g).worth;
            }
        }
        return what == 0 ? mood() : what == 1 ? s.gifts.size() : what == 2 ? bits : what == 3 ? worth : bad();
    }

    int eaten(int moth) {
        if (moth != -1 && !isMoth(moth)) {
            return refuse(0, -10);
        }
        if (mood() > 0) {
            return refuse(1, -20);
        }
        int bits = 0;
        int[] meals = new int[s.breeds.size()];
        for (int m = 0; m < meals.length; m++) {
            meals[m] = -1;
            for (int b = s.cloths.size() - 1; b >= 0; b--) {
                boolean gone = s.gifts.contains(b) || (bits & 1 << b) != 0;
                if (!gone && hunger(m, b) > 0 && (meals[m] == -1 || hunger(m, b) >= hunger(m, meals[m]))) {
                    meals[m] = b;
                }
            }
            bits |= meals[m] == -1 ? 0 : 1 << meals[m];
        }
        return moth == -1 ? bits : meals[moth];
    }

    int drawn(int seed) {
        if (!in(seed, 0, 999999)) {
            return bad();
        }
        int[] row = row(s.terms[0]);
        if (row == null) {
            return refuse(1, -3);
        }
        BigInteger x = BigInteger.valueOf(seed);
        int mood = s.terms[2];
        for (int g = 0; g < row.length - 1; g++) {
            x = x.multiply(BigInteger.valueOf(1103515245L)).add(BigInteger.valueOf(12345)).mod(BigInteger.ONE.shiftLeft(31));
            if (x.shiftRight(16).intValueExact() % 20 < 10 - mood) {
                return g;
            }
            mood = after(mood, row[g]);
        }
        return -1;
    }

    int holes(int b, int n) {
        if (!isBolt(b) || !in(n, -1, 99)) {
            return refuse(0, -10);
        }
        int was = s.cloths.get(b).holes;
        s.cloths.get(b).holes = n;
        return was;
    }

    private List<Integer> sets() {
        List<Integer> sets = new ArrayList<>();
        for (int set = 0; set < 1 << s.breeds.size(); set++) {
            boolean so = true;
            for (int b = 0; b < s.cloths.size(); b++) {
                so &= s.cloths.get(b).holes == -1 || s.cloths.get(b).holes == mouths(set, b).size();
            }
            if (so) {
                sets.add(set);
            }
        }
        return sets;
    }

    private List<Integer> mouths(int set, int b) {
        List<Integer> mouths = new ArrayList<>();
        for (int m = 0; m < s.breeds.size(); m++) {
            for (int hole = 3; (set & 1 << m) != 0 && hole <= hunger(m, b); hole += 3) {
                mouths.add(m);
            }
        }
        return mouths;
    }

    int byWhom(int what) {
        if (!in(what, 0, 1)) {
            return bad();
        }
        List<Integer> sets = sets();
        return what == 0 ? sets.size() : sets.isEmpty() ? refuse(1, -3) : sets.get(0);
    }

    int mouth(int b, int i) {
        if (!isBolt(b) || s.cloths.get(b).holes == -1 || i < 0) {
            return bad();
        }
        List<Integer> sets = sets();
        if (sets.isEmpty()) {
            return refuse(1, -3);
        }
        List<Integer> mouths = mouths(sets.get(0), b);
        return i < mouths.size() ? mouths.get(i) : -1;
    }

    int cedar(int limit) {
        if (!in(limit, 0, 40)) {
            return bad();
        }
        int best = -1;
        for (int set = 0; set < 1 << s.cloths.size(); set++) {
            boolean so = true;
            for (int b = 0; so && b < s.cloths.size(); b++) {
                Cloth c = s.cloths.get(b);
                for (int m = 0; m < s.breeds.size(); m++) {
                    so &= hunger(m, c, (set & 1 << b) != 0 ? 3 : c.smell) <= limit;
                }
            }
            if (so && (best == -1 || Integer.bitCount(set) < Integer.bitCount(best))) {
                best = set;
            }
        }
        return best;
    }

    int oracle(int n, int k) {
        if (!in(n, 1, 30) || !in(k, 0, n)) {
            return bad();
        }
        BigInteger[] ways = new BigInteger[n + 1];
        Arrays.fill(ways, BigInteger.ZERO);
        ways[0] = BigInteger.ONE;
        for (int time = 1; time <= n; time++) {
            for (int right = time; right > 0; right--) {
                ways[right] = ways[right].add(ways[right - 1]);
            }
        }
        BigInteger sum = BigInteger.ZERO;
        for (int right = k; right <= n; right++) {
            sum = sum.add(ways[right]);
        }
        fraction(sum, BigInteger.TWO.pow(n));
        return 1;
    }

    int tailor(int w, int rate) {
        if (!in(w, 0, 999) || !in(rate, 1, 9)) {
            return bad();
        }
        int best = -1;
        for (int set = 0; set < 1 << s.cloths.size(); set++) {
            int sum = 0;
            boolean told = true;
            for (int b = 0; b < s.cloths.size(); b++) {
                if ((set & 1 << b) != 0) {
                    told &= s.cloths.get(b).holes != -1;
                    sum += s.cloths.get(b).holes * rate;
                }
            }
            if (told && sum >= w && (best == -1 || Integer.bitCount(set) < best)) {
                best = Integer.bitCount(set);
            }
        }
        return best;
    }

    long part(int what) {
        return what == 0 ? above.longValueExact() : what == 1 ? below.longValueExact() : bad();
    }

    int image(int i) {
        if (!in(i, 0, 1)) {
            return bad();
        }
        images[i] = s.copy();
        return 1;
    }

    int from(int i) {
        if (!in(i, 0, 1)) {
            return bad();
        }
        if (images[i] == null) {
            return refuse(1, -3);
        }
        s = images[i].copy();
        return 1;
    }

    int status(int what) {
        return in(what, 0, 2) ? refused[what] : refuse(0, -1);
    }

    int count(int what) {
        switch (what) {
            case 0: return s.cloths.size();
            case 1: return s.breeds.size();
            case 2: return groups(s.terms[0]);
            case 3: return text.length();
            default: return bad();
        }
    }

    long digest() {
        List<Long> all = new ArrayList<>();
        for (int what = 0; what < 4; what++) {
            all.add((long) count(what));
        }
        for (Cloth c : s.cloths) {
            all.addAll(List.of((long) c.colour, (long) c.smell, (long) c.worth, (long) c.holes));
        }
        s.breeds.forEach(b -> all.add((long) b));
        Arrays.stream(s.tastes).forEach(t -> all.add((long) t));
        Arrays.stream(s.terms).forEach(t -> all.add((long) t));
        all.add((long) now(0));
        all.add((long) now(1));
        s.gifts.forEach(g -> all.add((long) g));
        all.add(above.longValueExact());
        all.add(below.longValueExact());
        long h = 691;
        for (long v : all) {
            h = 31 * h + v;
        }
        return h;
    }
}
