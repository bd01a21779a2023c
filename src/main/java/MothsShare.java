/**
 * The moth's share: a bargain by which of each so many bolts of cloth one is given up to the moths.
 * The document's numbered promises say what each call answers; README.md says how to use it.
 */
public final class MothsShare {
    public static final int NONE = -1, BAD = -2, NO = -3, FULL = -4;

    /** What counts as BAD where NONE and numbers of bolts are answers too. */
    private static final int BAD_TEN = -10;
    /** What counts as NO in eaten(). */
    private static final int NO_TWENTY = -20;

    private static final int MOST_BOLTS = 12;
    private static final int MOST_MOTHS = 4;
    private static final int LEAST_EACH = 2;
    private static final int MOST_EACH = 6;
    private static final int MOST_GROUPS = MOST_BOLTS / LEAST_EACH;
    private static final int MOST_MOOD = 9;
    /** The bolt that is told of a group that gets none. */
    private static final int CLEAN = 12;
    private static final int IMAGES = 2;

    private static final int GREY = 0;
    private static final int SHEEP = 1;
    private static final int CEDAR_SMELL = 3;

    private final Share told = new Share();
    /** Where a deed is tried, so that a refused one leaves what was told alone. */
    private final Share trial = new Share();
    /** Null where none was kept: what keeps none needs no room. */
    private final Share[] images = new Share[IMAGES];
    private final Plan plan = new Plan();
    private final Deed deed = new Deed();
    private final Fraction fraction = new Fraction();
    private int refusedBad;
    private int refusedNo;
    private int refusedFull;

    public MothsShare() {
    }

    // ---- bolts, moths, a bargain

    public int bolt(int colour, int smell, int worth) {
        return noted(told.addBolt(colour, smell, worth));
    }

    public int moth(int breed) {
        return noted(told.addMoth(breed));
    }

    public int taste(int colour, int v) {
        return noted(told.setTaste(colour, v));
    }

    public int put(int what, int v) {
        return noted(told.setTerm(what, v));
    }

    public int appetite(int moth, int bolt) {
        if (!told.hasMoth(moth) || !told.hasBolt(bolt)) {
            return noted(BAD);
        }
        return told.hunger(moth, bolt);
    }

    public int type(long v, int n) {
        return noted(deed.append(v, n));
    }

    public int clear() {
        return deed.empty();
    }

    public int read() {
        // What this answers is never noted: a fault of -10 must not count as BAD.
        int answer = deed.tellTo(trial);
        if (answer >= 0) {
            told.copyFrom(trial);
        }
        return answer;
    }

    // ---- what to give

    public int pleased(int bolt) {
        if (!told.hasBolt(bolt)) {
            return noted(BAD);
        }
        return told.pleases(bolt) ? 1 : 0;
    }

    public int cheapest(int group) {
        if (group < NONE || group >= told.groups()) {
            return noted(BAD_TEN);
        }
        plan.lay(told, told.each);
        return group == NONE ? plan.worth() : plan.giftOf(group);
    }

    public int number() {
        int best = NONE;
        int least = NONE;
        for (int n = LEAST_EACH; n <= MOST_EACH; n++) {
            plan.lay(told, n);
            int worth = plan.worth();
            if (worth != NONE && (best == NONE || worth < least)) {
                best = n;
                least = worth;
            }
        }
        return best;
    }

    public int stands() {
        plan.lay(told, told.each);
        if (plan.worth() == NONE) {
            return noted(NO);
        }
        long above = 1;
        long below = 1;
        for (int g = 0; g < plan.groups(); g++) {
            above *= 20 - (10 - plan.moodAhead(g));
            below *= 20;
        }
        fraction.become(above, below);
        return 1;
    }

    public int give(int bolt) {
        if (bolt != NONE && !told.hasBolt(bolt)) {
            return noted(BAD);
        }
        if (told.broken() || told.given >= told.groups()) {
            return noted(NO);
        }
        if (bolt != NONE && told.groupOf(bolt) != told.given) {
            return noted(BAD);
        }
        return told.giveNext(bolt);
    }

    public int undo() {
        return told.takeBack() ? 1 : noted(NO);
    }

    public int now(int what) {
        switch (what) {
            case 0: return told.moodNow();
            case 1: return told.given;
            case 2: return told.givenBits();
            case 3: return told.givenWorth();
            default: return noted(BAD);
        }
    }

    public int eaten(int moth) {
        if (moth != NONE && !told.hasMoth(moth)) {
            return noted(BAD_TEN);
        }
        if (!told.broken()) {
            return noted(NO_TWENTY);
        }
        return moth == NONE ? told.eatenBits() : told.mealOf(moth);
    }

    public int drawn(int seed) {
        if (seed < 0 || seed > 999999) {
            return noted(BAD);
        }
        plan.lay(told, told.each);
        if (plan.worth() == NONE) {
            return noted(NO);
        }
        long x = seed;
        for (int g = 0; g < plan.groups(); g++) {
            x = (x * 1103515245L + 12345L) % 2147483648L;
            if (x / 65536 % 20 < 10 - plan.moodAhead(g)) {
                return g;
            }
        }
        return NONE;
    }

    // ---- holes

    public int holes(int bolt, int n) {
        return noted(told.setHoles(bolt, n));
    }

    public int byWhom(int what) {
        if (what != 0 && what != 1) {
            return noted(BAD);
        }
        if (what == 0) {
            return told.setsThatFit();
        }
        int set = told.leastSet();
        return set == NONE ? noted(NO) : set;
    }

    public int mouth(int bolt, int i) {
        if (!told.holesAreTold(bolt) || i < 0) {
            return noted(BAD);
        }
        int set = told.leastSet();
        return set == NONE ? noted(NO) : told.mouthAt(bolt, i, set);
    }

    public int cedar(int limit) {
        if (limit < 0 || limit > 40) {
            return noted(BAD);
        }
        return told.cedarFor(limit);
    }

    public int oracle(int n, int k) {
        if (n < 1 || n > 30 || k < 0 || k > n) {
            return noted(BAD);
        }
        long ways = 1;
        long atLeast = 0;
        for (int i = 0; i <= n; i++) {
            if (i >= k) {
                atLeast += ways;
            }
            ways = ways * (n - i) / (i + 1);
        }
        fraction.become(atLeast, 1L << n);
        return 1;
    }

    public int tailor(int w, int rate) {
        if (w < 0 || w > 999 || rate < 1 || rate > 9) {
            return noted(BAD);
        }
        int paid = 0;
        int used = 0;
        for (int n = 0; n <= MOST_BOLTS; n++) {
            if (paid * rate >= w) {
                return n;
            }
            int b = told.mostHoles(used);
            if (b == NONE) {
                return NONE;
            }
            paid += told.holesOf(b);
            used |= 1 << b;
        }
        return NONE;
    }

    // ---- what there is

    public long part(int what) {
        switch (what) {
            case 0: return fraction.above;
            case 1: return fraction.below;
            default: return noted(BAD);
        }
    }

    public int image(int i) {
        if (i < 0 || i >= IMAGES) {
            return noted(BAD);
        }
        Share image = images[i];
        if (image == null) {
            image = new Share();
            images[i] = image;
        }
        image.copyFrom(told);
        return 1;
    }

    public int from(int i) {
        if (i < 0 || i >= IMAGES) {
            return noted(BAD);
        }
        Share image = images[i];
        if (image == null) {
            return noted(NO);
        }
        told.copyFrom(image);
        return 1;
    }

    public int status(int what) {
        switch (what) {
            case 0: return refusedBad;
            case 1: return refusedNo;
            case 2: return refusedFull;
            default:
                noted(BAD);
                return -1;
        }
    }

    public int count(int what) {
        switch (what) {
            case 0: return told.bolts;
            case 1: return told.moths;
            case 2: return told.groups();
            case 3: return deed.length;
            default: return noted(BAD);
        }
    }

    public long digest() {
        long h = 691;
        h = 31 * h + told.bolts;
        h = 31 * h + told.moths;
        h = 31 * h + told.groups();
        h = 31 * h + deed.length;
        h = told.foldInto(h);
        h = 31 * h + fraction.above;
        return 31 * h + fraction.below;
    }

    /** Counts a refusal in STATUS; hands every answer on. */
    private int noted(int answer) {
        if (answer == BAD || answer == BAD_TEN) {
            refusedBad++;
        } else if (answer == NO || answer == NO_TWENTY) {
            refusedNo++;
        } else if (answer == FULL) {
            refusedFull++;
        }
        return answer;
    }

    /** THE FRACTION. */
    private static final class Fraction {
        private long above = 0;
        private long below = 1;

        /** Takes above 0 or more, below 1 or more. */
        void become(long newAbove, long newBelow) {
            long divisor = greatestCommon(newAbove, newBelow);
            if (divisor > 0) {
                above = newAbove / divisor;
                below = newBelow / divisor;
            }
        }

        private static long greatestCommon(long a, long b) {
            // Euclid's steps on two longs are 92 at most.
            for (int step = 0; step < 100 && b != 0; step++) {
                long rest = a % b;
                a = b;
                b = rest;
            }
            return a;
        }
    }

    /** All that was told and given: what an IMAGE keeps. */
    private static final class Share {
        private final int[] colours = new int[MOST_BOLTS];
        private final int[] smells = new int[MOST_BOLTS];
        private final int[] worths = new int[MOST_BOLTS];
        private final int[] holesTold = new int[MOST_BOLTS];
        private int bolts;
        private final int[] breeds = new int[MOST_MOTHS];
        private int moths;
        private final int[] tastes = new int[4];
        private int each;
        private int want;
        private int mood;
        private final int[] gifts = new int[MOST_GROUPS];
        /** MOOD behind each gift, kept because WANT and TASTES may change behind it. */
        private final int[] moods = new int[MOST_GROUPS];
        private int given;

        Share() {
            startAnew();
        }

        void startAnew() {
            bolts = 0;
            moths = 0;
            for (int c = 0; c < tastes.length; c++) {
                tastes[c] = 5;
            }
            each = 3;
            want = 10;
            mood = 5;
            given = 0;
        }

        void copyFrom(Share other) {
            copyRow(other.colours, colours);
            copyRow(other.smells, smells);
            copyRow(other.worths, worths);
            copyRow(other.holesTold, holesTold);
            bolts = other.bolts;
            copyRow(other.breeds, breeds);
            moths = other.moths;
            copyRow(other.tastes, tastes);
            each = other.each;
            want = other.want;
            mood = other.mood;
            copyRow(other.gifts, gifts);
            copyRow(other.moods, moods);
            given = other.given;
        }

        private static void copyRow(int[] source, int[] target) {
            for (int i = 0; i < source.length && i < target.length; i++) {
                target[i] = source[i];
            }
        }

        // -- telling

        int addBolt(int colour, int smell, int worth) {
            if (colour < 0 || colour >= tastes.length || smell < 0 || smell > CEDAR_SMELL
                    || worth < 0 || worth > 99) {
                return BAD;
            }
            if (bolts >= MOST_BOLTS) {
                return FULL;
            }
            colours[bolts] = colour;
            smells[bolts] = smell;
            worths[bolts] = worth;
            holesTold[bolts] = NONE;
            bolts++;
            given = 0;
            return bolts - 1;
        }

        int addMoth(int breed) {
            if (breed < 0 || breed > Breeds.BLIND) {
                return BAD;
            }
            if (moths >= MOST_MOTHS) {
                return FULL;
            }
            breeds[moths] = breed;
            moths++;
            given = 0;
            return moths - 1;
        }

        int setTaste(int colour, int v) {
            if (colour < 0 || colour >= tastes.length || v < 0 || v > 9) {
                return BAD;
            }
            int was = tastes[colour];
            tastes[colour] = v;
            return was;
        }

        int setTerm(int what, int v) {
            switch (what) {
                case 0: return setEach(v);
                case 1: return setWant(v);
                case 2: return setMood(v);
                default: return BAD;
            }
        }

        private int setEach(int v) {
            if (v < LEAST_EACH || v > MOST_EACH) {
                return BAD;
            }
            int was = each;
            each = v;
            given = 0;
            return was;
        }

        private int setWant(int v) {
            if (v < 0 || v > 99) {
                return BAD;
            }
            int was = want;
            want = v;
            return was;
        }

        private int setMood(int v) {
            if (v < 1 || v > MOST_MOOD) {
                return BAD;
            }
            int was = mood;
            mood = v;
            given = 0;
            return was;
        }

        int setHoles(int bolt, int n) {
            if (!hasBolt(bolt) || n < NONE || n > 99) {
                return BAD_TEN;
            }
            int was = holesTold[bolt];
            holesTold[bolt] = n;
            return was;
        }

        // -- bolts, moths, groups

        boolean hasBolt(int b) {
            return b >= 0 && b < bolts;
        }

        boolean hasMoth(int m) {
            return m >= 0 && m < moths;
        }

        int groups() {
            return groupsBy(each);
        }

        int groupsBy(int n) {
            return n > 0 ? (bolts + n - 1) / n : 0;
        }

        int groupOf(int b) {
            return each > 0 ? b / each : NONE;
        }

        int worthOf(int b) {
            return hasBolt(b) ? worths[b] : 0;
        }

        /** APPETITE of a moth for a bolt. */
        int hunger(int m, int b) {
            return hasBolt(b) ? hungerAt(m, b, smells[b]) : 0;
        }

        /** APPETITE, did the bolt smell so. */
        private int hungerAt(int m, int b, int smell) {
            if (!hasMoth(m) || !hasBolt(b)) {
                return 0;
            }
            int colour = colours[b];
            int taste = colour >= 0 && colour < tastes.length ? tastes[colour] : 0;
            return Breeds.hunger(breeds[m], taste, colour, smell);
        }

        boolean pleases(int b) {
            int sum = 0;
            for (int m = 0; m < moths; m++) {
                sum += hunger(m, b);
            }
            return sum >= want;
        }

        // -- giving

        int moodNow() {
            return given > 0 && given <= moods.length ? moods[given - 1] : mood;
        }

        boolean broken() {
            return moodNow() <= 0;
        }

        int giveNext(int bolt) {
            if (given >= gifts.length) {
                return NO;
            }
            int next = bolt == NONE ? moodNow() - 2 : Plan.moodBehind(moodNow(), pleases(bolt));
            gifts[given] = bolt == NONE ? CLEAN : bolt;
            moods[given] = Math.max(0, next);
            given++;
            return moodNow();
        }

        boolean takeBack() {
            if (given == 0) {
                return false;
            }
            given--;
            return true;
        }

        int givenBits() {
            int bits = 0;
            for (int g = 0; g < given; g++) {
                if (gifts[g] != CLEAN) {
                    bits |= 1 << gifts[g];
                }
            }
            return bits;
        }

        int givenWorth() {
            int sum = 0;
            for (int g = 0; g < given; g++) {
                sum += worthOf(gifts[g]);
            }
            return sum;
        }

        // -- eating

        int eatenBits() {
            return goneAhead(moths) & ~givenBits();
        }

        int mealOf(int m) {
            return favourite(m, goneAhead(m));
        }

        /** The bolts that are given up or eaten by the moths ahead of one. */
        private int goneAhead(int moth) {
            int gone = givenBits();
            for (int m = 0; m < moth; m++) {
                int b = favourite(m, gone);
                if (b != NONE) {
                    gone |= 1 << b;
                }
            }
            return gone;
        }

        private int favourite(int m, int gone) {
            int best = NONE;
            int greatest = 0;
            for (int b = 0; b < bolts; b++) {
                int hunger = hunger(m, b);
                if ((gone >> b & 1) == 0 && hunger > greatest) {
                    best = b;
                    greatest = hunger;
                }
            }
            return best;
        }

        // -- holes

        int holesOf(int b) {
            return hasBolt(b) ? holesTold[b] : NONE;
        }

        boolean holesAreTold(int b) {
            return holesOf(b) != NONE;
        }

        int setsThatFit() {
            int sets = 0;
            for (int set = 0; set < 1 << moths; set++) {
                if (fits(set)) {
                    sets++;
                }
            }
            return sets;
        }

        /** The least set of moths that made all holes; NONE. */
        int leastSet() {
            for (int set = 0; set < 1 << moths; set++) {
                if (fits(set)) {
                    return set;
                }
            }
            return NONE;
        }

        private boolean fits(int set) {
            for (int b = 0; b < bolts; b++) {
                if (holesAreTold(b) && holesBy(set, b) != holesTold[b]) {
                    return false;
                }
            }
            return true;
        }

        private int holesBy(int set, int b) {
            int sum = 0;
            for (int m = 0; m < moths; m++) {
                if ((set >> m & 1) == 1) {
                    sum += hunger(m, b) / 3;
                }
            }
            return sum;
        }

        int mouthAt(int b, int i, int set) {
            int left = i;
            for (int m = 0; m < moths; m++) {
                if ((set >> m & 1) == 1) {
                    left -= hunger(m, b) / 3;
                    if (left < 0) {
                        return m;
                    }
                }
            }
            return NONE;
        }

        /** The told bolt with the most holes that is not among the used ones; NONE. */
        int mostHoles(int used) {
            int best = NONE;
            for (int b = 0; b < bolts; b++) {
                if ((used >> b & 1) == 0 && holesOf(b) > holesOf(best)) {
                    best = b;
                }
            }
            return best;
        }

        /** CEDAR: a bolt needs it or not whatever the others smell of. */
        int cedarFor(int limit) {
            int bits = 0;
            for (int b = 0; b < bolts; b++) {
                if (greatestHunger(b, smells[b]) > limit) {
                    if (greatestHunger(b, CEDAR_SMELL) > limit) {
                        return NONE;
                    }
                    bits |= 1 << b;
                }
            }
            return bits;
        }

        private int greatestHunger(int b, int smell) {
            int greatest = 0;
            for (int m = 0; m < moths; m++) {
                greatest = Math.max(greatest, hungerAt(m, b, smell));
            }
            return greatest;
        }

        // -- digest

        long foldInto(long start) {
            long h = start;
            for (int b = 0; b < bolts; b++) {
                h = 31 * h + colours[b];
                h = 31 * h + smells[b];
                h = 31 * h + worths[b];
                h = 31 * h + holesTold[b];
            }
            for (int m = 0; m < moths; m++) {
                h = 31 * h + breeds[m];
            }
            for (int c = 0; c < tastes.length; c++) {
                h = 31 * h + tastes[c];
            }
            h = 31 * h + each;
            h = 31 * h + want;
            h = 31 * h + mood;
            h = 31 * h + moodNow();
            h = 31 * h + given;
            for (int g = 0; g < given; g++) {
                h = 31 * h + gifts[g];
            }
            return h;
        }
    }

    /** The breeds, each by the one that it is under. */
    private static final class Breeds {
        static final int SHY = 1, GREEDY = 2, GREYLING = 3, RIVAL = 4, BLIND = 5;

        static int hunger(int breed, int taste, int colour, int smell) {
            int shy = smell == CEDAR_SMELL ? 0 : taste;
            int greedy = 2 * taste;
            switch (breed) {
                case SHY: return shy;
                case GREEDY: return greedy;
                case GREYLING: return greedy + (colour == GREY ? 5 : 0);
                case RIVAL: return shy + (smell == SHEEP ? 3 : 0);
                case BLIND: return greedy % 7;
                default: return taste;
            }
        }
    }

    /** CHEAPEST: a table from the last group back, then the row that it leads to. */
    private static final class Plan {
        private static final int MOODS = MOST_MOOD + 1;

        private final boolean[] pleasing = new boolean[MOST_BOLTS];
        /** By group and mood ahead of it: the least worth from there on, NONE where all is broken. */
        private final int[] least = new int[(MOST_GROUPS + 1) * MOODS];
        private final int[] choice = new int[MOST_GROUPS * MOODS];
        private final int[] gifts = new int[MOST_GROUPS];
        private final int[] ahead = new int[MOST_GROUPS];
        private int rows;
        private int total;

        static int moodBehind(int mood, boolean pleased) {
            return pleased ? Math.min(MOST_MOOD, mood + 1) : mood - 1;
        }

        void lay(Share share, int each) {
            for (int b = 0; b < share.bolts && b < pleasing.length; b++) {
                pleasing[b] = share.pleases(b);
            }
            rows = Math.min(MOST_GROUPS, share.groupsBy(each));
            for (int m = 0; m < MOODS; m++) {
                least[rows * MOODS + m] = m > 0 ? 0 : NONE;
            }
            for (int g = rows - 1; g >= 0; g--) {
                least[g * MOODS] = NONE;
                for (int m = 1; m < MOODS; m++) {
                    choose(share, each, g, m);
                }
            }
            follow(share.mood);
        }

        /** The first of the gifts of least worth: none, then the bolts rising. */
        private void choose(Share share, int each, int g, int m) {
            int best = leastFrom(g + 1, m - 2);
            int gift = CLEAN;
            int end = Math.min((g + 1) * each, share.bolts);
            for (int b = g * each; b < end && b < pleasing.length; b++) {
                int rest = leastFrom(g + 1, moodBehind(m, pleasing[b]));
                int worth = rest + share.worthOf(b);
                if (rest != NONE && (best == NONE || worth < best)) {
                    best = worth;
                    gift = b;
                }
            }
            least[g * MOODS + m] = best;
            choice[g * MOODS + m] = gift;
        }

        private int leastFrom(int g, int m) {
            return m > 0 && m < MOODS && g >= 0 && g <= MOST_GROUPS ? least[g * MOODS + m] : NONE;
        }

        private void follow(int start) {
            total = leastFrom(0, start);
            if (total == NONE) {
                return;
            }
            int m = start;
            for (int g = 0; g < rows && m > 0 && m < MOODS; g++) {
                int gift = choice[g * MOODS + m];
                gifts[g] = gift;
                ahead[g] = m;
                m = gift >= 0 && gift < pleasing.length ? moodBehind(m, pleasing[gift]) : m - 2;
            }
        }

        /** NONE: it is broken by all. */
        int worth() {
            return total;
        }

        int groups() {
            return rows;
        }

        int giftOf(int g) {
            return total != NONE && g >= 0 && g < rows ? gifts[g] : NONE;
        }

        int moodAhead(int g) {
            return total != NONE && g >= 0 && g < rows ? ahead[g] : 0;
        }
    }

    /** THE TEXT, and the deed that it tells. */
    private static final class Deed {
        private static final int MOST_BYTES = 200;
        private static final int END = 0, WORD = 1, FIGURES = 2, STOP = 3, WRONG = 4;
        private static final int WORDS = 7;
        private static final int BOLT = 0, MOTH = 1, TASTE = 2, EACH = 3, HOLES = 6;

        private final byte[] text = new byte[MOST_BYTES];
        private int length;
        private int place;
        /** Of the token read last: its kind, its first byte, which word or number it is. */
        private int token;
        private int start;
        private int value;
        private final int[] numbers = new int[3];

        int append(long v, int n) {
            if (n < 1 || n > 8) {
                return BAD;
            }
            if (length + n > MOST_BYTES) {
                return FULL;
            }
            for (int i = n - 1; i >= 0; i--) {
                text[length] = (byte) (v >> 8 * i);
                length++;
            }
            return length;
        }

        int empty() {
            int was = length;
            length = 0;
            return was;
        }

        /** Tells a share the items: how many; -10 less the fault; -1000 less the first one refused. */
        int tellTo(Share share) {
            share.startAnew();
            place = 0;
            int refused = NONE;
            for (int items = 0; items <= MOST_BYTES; items++) {
                nextToken();
                if (token == END) {
                    return refused == NONE ? items : -1000 - refused;
                }
                int word = value;
                if (token != WORD || !readNumbers(numbersOf(word))) {
                    return -10 - start;
                }
                // Behind a refused item the text may still have a fault, which goes ahead of it.
                if (refused == NONE && tellItem(share, word) < NONE) {
                    refused = items;
                }
            }
            return -10 - length;
        }

        private int tellItem(Share share, int word) {
            switch (word) {
                case BOLT: return share.addBolt(numbers[0], numbers[1], numbers[2]);
                case MOTH: return share.addMoth(numbers[0]);
                case TASTE: return share.setTaste(numbers[0], numbers[1]);
                case HOLES: return share.setHoles(numbers[0], numbers[1]);
                default: return share.setTerm(word - EACH, numbers[0]);
            }
        }

        private static int numbersOf(int word) {
            switch (word) {
                case BOLT: return 3;
                case TASTE: case HOLES: return 2;
                default: return 1;
            }
        }

        private boolean readNumbers(int howMany) {
            for (int i = 0; i < howMany && i < numbers.length; i++) {
                nextToken();
                if (token != FIGURES) {
                    return false;
                }
                numbers[i] = value;
            }
            nextToken();
            return token == STOP;
        }

        private void nextToken() {
            while (place < length && text[place] == ' ') {
                place++;
            }
            start = place;
            if (place >= length) {
                token = END;
            } else if (isLetter(text[place])) {
                readWord();
            } else if (isFigure(text[place])) {
                readFigures();
            } else {
                token = text[place] == ';' ? STOP : WRONG;
                place++;
            }
        }

        private void readWord() {
            while (place < length && isLetter(text[place])) {
                place++;
            }
            token = WRONG;
            for (int w = 0; w < WORDS; w++) {
                if (isWord(wordAt(w))) {
                    token = WORD;
                    value = w;
                }
            }
        }

        /** Whether the bytes from start to place are this word. */
        private boolean isWord(String word) {
            if (word.length() != place - start) {
                return false;
            }
            for (int i = 0; i < word.length() && start + i < length; i++) {
                if (text[start + i] != word.charAt(i)) {
                    return false;
                }
            }
            return true;
        }

        private static String wordAt(int w) {
            switch (w) {
                case BOLT: return "bolt";
                case MOTH: return "moth";
                case TASTE: return "taste";
                case EACH: return "each";
                case EACH + 1: return "want";
                case EACH + 2: return "mood";
                default: return "holes";
            }
        }

        private void readFigures() {
            value = 0;
            while (place < length && isFigure(text[place])) {
                value = 10 * value + text[place] - '0';
                place++;
            }
            token = place - start > 2 ? WRONG : FIGURES;
        }

        private static boolean isLetter(byte c) {
            return c >= 'a' && c <= 'z';
        }

        private static boolean isFigure(byte c) {
            return c >= '0' && c <= '9';
        }
    }
}
