import java.math.BigInteger;

/** Promises 10 to 18: what to give, giving, undoing, what is eaten, what is drawn. */
public final class GivingTest {
    private static final Due due = new Due();
    /** Six groups; only bolt 0 pleases; it is cheap, the others are dear. */
    private static final String HARD = "moth 0; taste 0 9; taste 1 0; want 9; each 2; mood 9; bolt 0 0 0;"
        + "bolt1 0 7;bolt1 0 7;bolt1 0 7;bolt1 0 7;bolt1 0 7;bolt1 0 7;bolt1 0 7;bolt1 0 7;bolt1 0 7;bolt1 0 7;bolt1 0 7;";

    public static void main(String[] args) {
        pleased();
        cheapest();
        cheapestOfLikeOnes();
        number();
        stands();
        give();
        giveRefused();
        undo();
        now();
        eaten();
        drawn();
        due.end();
    }

    private static void pleased() {
        due.promise(10);
        MothsShare x = Due.told("bolt 1 0 1; bolt 2 0 1; moth 0; moth 2; taste 1 4;");
        due.is("4 and 8 for 10", x.pleased(0), 1);
        x.put(1, 12);
        due.is("12 for 12", x.pleased(0), 1);
        x.put(1, 13);
        due.is("12 for 13", x.pleased(0), 0);
        due.is("15 for 13", x.pleased(1), 1);
        due.bad(x, "pleased(2)", () -> x.pleased(2));
        due.bad(x, "pleased(-1)", () -> x.pleased(-1));
        MothsShare none = Due.told("bolt 1 0 1;");
        due.is("no MOTHS, WANT 10", none.pleased(0), 0);
        none.put(1, 0);
        due.is("no MOTHS, WANT 0", none.pleased(0), 1);
    }

    private static void cheapest() {
        due.promise(11);
        MothsShare x = Due.told(HARD);
        int[] row = {0, 12, 12, 12, 8, 10};
        due.is("cheapest(NONE)", x.cheapest(-1), 14);
        for (int g = 0; g < row.length; g++) {
            due.is("cheapest(" + g + ")", x.cheapest(g), row[g]);
        }
        due.badTen(x, "cheapest(6)", () -> x.cheapest(6));
        due.badTen(x, "cheapest(-2)", () -> x.cheapest(-2));
        x.give(1);
        x.give(-1);
        due.is("whatever is given", x.cheapest(4), 8);
        due.is("whatever is given", x.cheapest(-1), 14);
        x.put(2, 1);
        x.taste(0, 8);
        due.is("broken by all", x.cheapest(-1), -1);
        due.is("broken by all", x.cheapest(0), -1);
        due.is("STATUS of NONE", x.status(0) + x.status(1) + x.status(2), 2);
        due.badTen(x, "cheapest(6), broken by all", () -> x.cheapest(6));
        MothsShare empty = new MothsShare();
        due.is("no BOLTS", empty.cheapest(-1), 0);
        due.badTen(empty, "cheapest(0)", () -> empty.cheapest(0));
        MothsShare last = Due.told("bolt 0 0 5; mood 2; each 6;");
        due.is("broken behind the last group too", last.cheapest(-1), 5);
        MothsShare smallLast = Due.told("each 2; mood 1; want 0; bolt0 0 9;bolt0 0 8;bolt0 0 7;");
        due.is("two groups of two and one", smallLast.cheapest(-1), 15);
        due.is("the one", smallLast.cheapest(1), 2);
    }

    private static void cheapestOfLikeOnes() {
        MothsShare x = Due.told("each 2; mood 2; want 0; bolt0 0 4;bolt0 0 4;bolt0 0 4;bolt0 0 4;");
        due.is("WORTH", x.cheapest(-1), 4);
        due.is("the lower of like BOLTS", x.cheapest(0), 0);
        due.is("none behind it", x.cheapest(1), 12);
        MothsShare y = Due.told("each 2; mood 3; want 0; bolt0 0 4;bolt0 0 4;bolt0 0 4;bolt0 0 4;");
        due.is("WORTH", y.cheapest(-1), 4);
        due.is("none ahead of all", y.cheapest(0), 12);
        due.is("then the lower BOLT", y.cheapest(1), 2);
        MothsShare z = Due.told("each 2; mood 5; bolt0 0 0;bolt0 0 0;");
        due.is("none ahead of a BOLT without WORTH", z.cheapest(0), 12);
    }

    private static void number() {
        due.promise(12);
        due.is("no BOLTS", new MothsShare().number(), 2);
        due.is("no way", Due.told("bolt 0 0 1; mood 1;").number(), -1);
        MothsShare x = Due.told("mood 2; each 6; want 0; bolt0 0 3;bolt0 0 3;bolt0 0 1;");
        // By 2 either group's one must be given (a first 3, or none and then broken): 3; by 3 and more: 1.
        due.is("the least of like ones", x.number(), 3);
        due.is("EACH stays", x.put(0, 6), 6);
        MothsShare y = Due.told("mood 3; want 0; bolt0 0 1;bolt0 0 1;bolt0 0 1;");
        due.is("two groups of 2, 1: worth 1; one group: none", y.number(), 3);
        y.put(2, 9);
        due.is("nothing by any", y.number(), 2);
        MothsShare six = Due.told("mood 3; want 0; bolt0 0 1;bolt0 0 1;bolt0 0 1;bolt0 0 1;bolt0 0 1;bolt0 0 1;");
        due.is("one GROUP of six", six.number(), 6);
        six.put(2, 4);
        due.is("two GROUPS: worth 1; one: none", six.number(), 6);
        six.put(2, 5);
        due.is("two GROUPS: none", six.number(), 3);
        MothsShare dark = Due.told("bolt 0 0 1; mood 1;");
        due.is("STATUS of none", dark.number() + dark.status(0) + dark.status(1), -1);
    }

    private static void isFraction(MothsShare x, String call, BigInteger above, BigInteger below) {
        BigInteger divisor = above.gcd(below);
        due.is("above of " + call, x.part(0), above.divide(divisor).longValueExact());
        due.is("below of " + call, x.part(1), below.divide(divisor).longValueExact());
    }

    private static void stands() {
        due.promise(13);
        MothsShare x = Due.told(HARD);
        due.is("stands()", x.stands(), 1);
        BigInteger above = BigInteger.ONE;
        for (int mood : new int[] {9, 9, 7, 5, 3, 2}) {
            above = above.multiply(BigInteger.valueOf(10 + mood));
        }
        isFraction(x, "stands()", above, BigInteger.valueOf(20).pow(6));
        MothsShare empty = new MothsShare();
        due.is("stands() of nothing", empty.stands(), 1);
        isFraction(empty, "stands() of nothing", BigInteger.ONE, BigInteger.ONE);
        x.put(2, 1);
        x.taste(0, 8);
        long was = x.part(0);
        due.no(x, "stands(), broken by all", () -> x.stands());
        due.is("THE FRACTION", x.part(0), was);
        MothsShare given = Due.told("want 0; mood 4; bolt0 0 4;");
        given.give(0);
        given.stands();
        isFraction(given, "stands() by the MOOD that was told", BigInteger.valueOf(14), BigInteger.valueOf(20));
    }

    private static void give() {
        due.promise(14);
        MothsShare x = Due.told("each 2; moth 0; want 5; taste 1 4; bolt0 0 1;bolt1 0 1;bolt0 0 1;bolt1 0 1;bolt0 0 1;");
        due.is("pleased", x.give(0), 6);
        due.is("not pleased", x.give(3), 5);
        due.is("none", x.give(-1), 3);
        due.no(x, "give(NONE): no GROUP is next", () -> x.give(-1));
        due.no(x, "give(0): no GROUP is next", () -> x.give(0));
        due.bad(x, "give(5): no such BOLT", () -> x.give(5));
        MothsShare most = Due.told("mood 9; want 0; bolt 0 0 0;");
        due.is("9 at most", most.give(0), 9);
        MothsShare one = Due.told("mood 1; bolt 0 0 0; bolt 0 0 0;");
        due.is("not pleased at 1", one.give(1), 0);
        one.put(2, 1);
        due.is("none at 1: 0, not below", one.give(-1), 0);
        due.is("now(0)", one.now(0), 0);
        MothsShare two = Due.told("mood 2; bolt 0 0 0;");
        due.is("none at 2", two.give(-1), 0);
        MothsShare changed = Due.told("each 2; want 0; bolt0 0 1;bolt0 0 1;bolt0 0 1;");
        due.is("pleased", changed.give(1), 6);
        changed.put(1, 99);
        due.is("MOOD stays as it was then", changed.now(0), 6);
        due.is("not pleased from then on", changed.give(2), 5);
    }

    private static void giveRefused() {
        MothsShare x = Due.told("each 2; mood 1; bolt0 0 1;bolt1 0 1;bolt0 0 1;");
        due.bad(x, "give(2): of a GROUP behind", () -> x.give(2));
        due.bad(x, "give(3)", () -> x.give(3));
        due.bad(x, "give(-2)", () -> x.give(-2));
        due.bad(x, "give(least)", () -> x.give(Integer.MIN_VALUE));
        x.give(-1);
        due.no(x, "give(2): BROKEN", () -> x.give(2));
        due.no(x, "give(0): BROKEN", () -> x.give(0));
        due.no(x, "give(NONE): BROKEN", () -> x.give(-1));
        due.bad(x, "give(3): BROKEN", () -> x.give(3));
        x.put(2, 9);
        x.give(0);
        due.bad(x, "give(1): of a GROUP ahead", () -> x.give(1));
        due.bad(x, "give(0): once more", () -> x.give(0));
        MothsShare empty = new MothsShare();
        due.no(empty, "give(NONE) of nothing", () -> empty.give(-1));
        due.bad(empty, "give(0) of nothing", () -> empty.give(0));
    }

    private static void undo() {
        due.promise(15);
        MothsShare x = Due.told("each 2; mood 4; want 0; bolt0 0 1;bolt0 0 2;bolt0 0 4;bolt0 0 8;bolt0 0 16;");
        x.give(1);
        x.give(-1);
        x.put(1, 99);
        x.give(4);
        due.is("now(0)", x.now(0), 2);
        due.is("undo()", x.undo(), 1);
        due.is("now(0)", x.now(0), 3);
        due.is("now(1)", x.now(1), 2);
        due.is("undo()", x.undo(), 1);
        due.is("now(0)", x.now(0), 5);
        due.is("now(2)", x.now(2), 2);
        due.is("WANT stays", x.put(1, 99), 99);
        due.is("undo()", x.undo(), 1);
        due.is("now(0)", x.now(0), 4);
        due.is("now(3)", x.now(3), 0);
        due.no(x, "undo()", () -> x.undo());
        due.is("give behind undo", x.give(0), 3);
        due.is("now(2)", x.now(2), 1);
        x.put(2, 1);
        x.give(-1);
        due.is("undo() of what broke it", x.undo(), 1);
        due.is("now(0)", x.now(0), 1);
        due.refused(x, 1, "eaten(-1)", () -> x.eaten(-1), -20);
    }

    private static void now() {
        due.promise(16);
        MothsShare x = Due.told("each 2; mood 4; want 0; bolt0 0 1;bolt0 0 2;bolt0 0 4;bolt0 0 8;bolt0 0 16;");
        x.give(1);
        x.give(-1);
        x.give(4);
        int[] wants = {4, 3, 18, 18};
        for (int what = 0; what < 4; what++) {
            due.is("now(" + what + ")", x.now(what), wants[what]);
        }
        due.bad(x, "now(-1)", () -> x.now(-1));
        due.bad(x, "now(4)", () -> x.now(4));
        MothsShare worth = Due.told("each 2; want 0; bolt0 0 50;bolt0 0 2;bolt0 0 4;bolt0 0 30;");
        worth.give(0);
        worth.give(3);
        due.is("bits", worth.now(2), 9);
        due.is("WORTH", worth.now(3), 80);
    }

    private static void eaten() {
        due.promise(17);
        MothsShare x = Due.told("each 2; mood 3; moth 0; moth 2; moth 1; moth 0; want 99;"
            + "taste 0 7; taste 1 6; taste 2 0; taste 3 6;"
            + "bolt0 0 1;bolt3 0 1;bolt1 0 1;bolt2 0 1;bolt1 3 1;");
        due.refused(x, 1, "eaten(NONE)", () -> x.eaten(-1), -20);
        due.badTen(x, "eaten(4)", () -> x.eaten(4));
        due.badTen(x, "eaten(-2)", () -> x.eaten(-2));
        due.is("give(0)", x.give(0), 2);
        due.is("give(NONE)", x.give(-1), 0);
        // Bolt 0 is given up; the first takes the least of like ones; the SHY one shuns cedar, the last takes it.
        due.is("eaten(NONE)", x.eaten(-1), 2 + 4 + 16);
        int[] meals = {1, 2, -1, 4};
        for (int m = 0; m < 4; m++) {
            due.is("eaten(" + m + ")", x.eaten(m), meals[m]);
        }
        due.badTen(x, "eaten(4), BROKEN", () -> x.eaten(4));
        x.taste(2, 1);
        due.is("by the TASTES that are: the SHY one eats bolt 3", x.eaten(2), 3);
        due.is("STATUS", x.status(1), 1);
        MothsShare first = Due.told("mood 1; moth 0; moth 0; taste 0 3; taste 1 4; bolt1 0 1;bolt0 0 1;bolt0 0 1;");
        first.give(-1);
        due.is("bolt 0 first", first.eaten(0), 0);
        due.is("then bolt 1", first.eaten(1), 1);
        MothsShare none = Due.told("mood 1; bolt 0 0 1;");
        none.give(-1);
        due.is("no MOTHS", none.eaten(-1), 0);
        due.badTen(none, "eaten(0)", () -> none.eaten(0));
    }

    private static int drawnBy(long seed, int[] moods) {
        BigInteger x = BigInteger.valueOf(seed);
        for (int g = 0; g < moods.length; g++) {
            x = x.multiply(BigInteger.valueOf(1103515245)).add(BigInteger.valueOf(12345))
                .mod(BigInteger.valueOf(2147483648L));
            if (x.divide(BigInteger.valueOf(65536)).intValueExact() % 20 < 10 - moods[g]) {
                return g;
            }
        }
        return -1;
    }

    private static void drawn() {
        due.promise(18);
        MothsShare x = Due.told(HARD);
        int[] moods = {9, 9, 7, 5, 3, 2};
        for (int seed = 0; seed < 300; seed++) {
            due.is("drawn(" + seed + ")", x.drawn(seed), drawnBy(seed, moods));
        }
        for (int seed = 999999; seed > 999900; seed--) {
            due.is("drawn(" + seed + ")", x.drawn(seed), drawnBy(seed, moods));
        }
        due.is("no GROUPS", new MothsShare().drawn(3), -1);
        due.bad(x, "drawn(-1)", () -> x.drawn(-1));
        due.bad(x, "drawn(1000000)", () -> x.drawn(1000000));
        x.put(2, 1);
        x.taste(0, 8);
        due.no(x, "drawn(0), broken by all", () -> x.drawn(0));
        due.bad(x, "drawn(-1), broken by all", () -> x.drawn(-1));
        MothsShare given = Due.told("mood 5; bolt 0 0 0;");
        long before = given.drawn(12);
        given.give(0);
        due.is("by the MOOD that was told", given.drawn(12), before);
    }
}
