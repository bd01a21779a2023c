import java.math.BigInteger;

/** Promises 19 to 24: holes, by whom, mouths, cedar, the oracle, a tailor. */
public final class HolesTest {
    private static final Due due = new Due();

    public static void main(String[] args) {
        holes();
        byWhom();
        mouth();
        cedar();
        oracle();
        tailor();
        due.end();
    }

    private static void holes() {
        due.promise(19);
        MothsShare x = Due.told("bolt 0 0 1; bolt 0 0 1; moth 0; want 0; each 2;");
        due.is("none was told", x.holes(0, 99), -1);
        due.is("99", x.holes(0, 0), 99);
        due.is("0", x.holes(0, -1), 0);
        due.is("none are told any more", x.byWhom(0), 2);
        due.is("none", x.holes(0, 5), -1);
        due.is("the other", x.holes(1, 7), -1);
        due.badTen(x, "holes(2, 1)", () -> x.holes(2, 1));
        due.badTen(x, "holes(-1, 1)", () -> x.holes(-1, 1));
        due.badTen(x, "holes(0, 100)", () -> x.holes(0, 100));
        due.badTen(x, "holes(0, -2)", () -> x.holes(0, -2));
        due.is("0 as it was", x.holes(0, 5), 5);
        x.give(1);
        x.holes(0, 6);
        due.is("what is given stays", x.now(1), 1);
        due.is("as told", x.holes(1, 7), 7);
    }

    private static void byWhom() {
        due.promise(20);
        MothsShare x = Due.told("bolt 0 0 1; bolt 1 3 1; moth 1; moth 0; moth 1; moth 5; taste 0 9; taste 1 5;");
        due.is("all sets where none are told", x.byWhom(0), 16);
        due.is("the least", x.byWhom(1), 0);
        // At bolt 0 they make 3, 3, 3 and 1 (18 by 7 leaves 4); at bolt 1 none, 1, none, 1.
        x.holes(0, 6);
        due.is("6 at bolt 0", x.byWhom(0), 3);
        due.is("the first two", x.byWhom(1), 3);
        x.holes(1, 0);
        due.is("and none at bolt 1", x.byWhom(0), 1);
        due.is("the first and the third", x.byWhom(1), 5);
        x.holes(1, 2);
        due.is("no set", x.byWhom(0), 0);
        due.no(x, "byWhom(1)", () -> x.byWhom(1));
        due.bad(x, "byWhom(2)", () -> x.byWhom(2));
        due.bad(x, "byWhom(-1)", () -> x.byWhom(-1));
        x.holes(0, 7);
        due.is("all but the third, all but the first, ..", x.byWhom(0), 2);
        due.is("the least", x.byWhom(1), 11);
        MothsShare none = Due.told("bolt 0 0 1;");
        none.holes(0, 0);
        due.is("no MOTHS made none", none.byWhom(0), 1);
        none.holes(0, 1);
        due.is("no MOTHS made one", none.byWhom(0), 0);
    }

    private static void mouth() {
        due.promise(21);
        MothsShare x = Due.told("bolt 0 0 1; bolt 1 3 1; bolt 2 0 1; moth 1; moth 0; moth 2; moth 3; taste 0 9; taste 1 3; taste 2 2;");
        // At bolt 0: 3, 3, 6, 7 holes; at bolt 1: 0, 1, 2, 2; at bolt 2: 0, 0, 1, 1.
        x.holes(0, 13);
        due.is("sets of 13", x.byWhom(0), 2);
        due.is("the least", x.byWhom(1), 11);
        int[] mouths = {0, 0, 0, 1, 1, 1, 3, 3, 3, 3, 3, 3, 3, -1, -1};
        for (int i = 0; i < mouths.length; i++) {
            due.is("mouth(0, " + i + ")", x.mouth(0, i), mouths[i]);
        }
        due.is("mouth(0, most)", x.mouth(0, Integer.MAX_VALUE), -1);
        due.bad(x, "mouth(1, 0): no HOLES are told", () -> x.mouth(1, 0));
        due.bad(x, "mouth(0, -1)", () -> x.mouth(0, -1));
        due.bad(x, "mouth(3, 0)", () -> x.mouth(3, 0));
        due.bad(x, "mouth(-1, 0)", () -> x.mouth(-1, 0));
        x.holes(1, 2);
        x.holes(1, 9);
        due.no(x, "mouth(1, 0): none did it", () -> x.mouth(1, 0));
        due.no(x, "mouth(1, 99): none did it", () -> x.mouth(1, 99));
        due.bad(x, "mouth(2, 0): no HOLES are told, none did it", () -> x.mouth(2, 0));
        due.bad(x, "mouth(1, -1): none did it", () -> x.mouth(1, -1));
        MothsShare skips = Due.told("bolt 1 3 1; moth 1; moth 0; taste 1 3;");
        skips.holes(0, 1);
        due.is("of a set without the first", skips.mouth(0, 0), 1);
        skips.holes(0, 0);
        due.is("no holes", skips.mouth(0, 0), -1);
    }

    private static void cedar() {
        due.promise(22);
        MothsShare x = Due.told("moth 1; moth 4; taste 0 5; taste 1 8; taste 2 3; bolt0 0 1;bolt1 3 1;bolt2 1 1;bolt2 0 1;");
        // Appetites: 5, 5; 0, 0; 3, 6; 3, 3.
        int[] wants = {13, 13, 13, 5, 5, 4, 0};
        for (int limit = 0; limit < wants.length; limit++) {
            due.is("cedar(" + limit + ")", x.cedar(limit), wants[limit]);
        }
        due.is("cedar(40)", x.cedar(40), 0);
        due.bad(x, "cedar(-1)", () -> x.cedar(-1));
        due.bad(x, "cedar(41)", () -> x.cedar(41));
        due.is("nothing is told by it", x.appetite(0, 0), 5);
        x.moth(0);
        due.is("a COMMON one minds no cedar", x.cedar(7), -1);
        due.is("its 8", x.cedar(8), 0);
        due.is("STATUS of none", x.status(0), 2);
        MothsShare mixed = Due.told("moth 1; moth 5; taste 0 8; bolt0 0 1;bolt1 1 1;");
        due.is("the first MOTH's 8 and 5, the other's 2 and 3", mixed.cedar(5), 1);
        due.is("the first MOTH's alone", mixed.cedar(3), 3);
        due.is("the other's 3", mixed.cedar(2), -1);
        due.is("no BOLTS", Due.told("moth 3;").cedar(0), 0);
        due.is("no MOTHS", Due.told("bolt 0 0 1;").cedar(0), 0);
    }

    private static BigInteger choose(int n, int k) {
        BigInteger c = BigInteger.ONE;
        for (int i = 1; i <= k; i++) {
            c = c.multiply(BigInteger.valueOf(n - k + i)).divide(BigInteger.valueOf(i));
        }
        return c;
    }

    private static void oracle() {
        due.promise(23);
        MothsShare x = new MothsShare();
        for (int n = 1; n <= 30; n++) {
            BigInteger above = BigInteger.ZERO;
            for (int k = n; k >= 0; k--) {
                above = above.add(choose(n, k));
                BigInteger below = BigInteger.TWO.pow(n);
                BigInteger divisor = above.gcd(below);
                due.is("oracle(" + n + ", " + k + ")", x.oracle(n, k), 1);
                due.is("above of oracle(" + n + ", " + k + ")", x.part(0), above.divide(divisor).longValueExact());
                due.is("below of oracle(" + n + ", " + k + ")", x.part(1), below.divide(divisor).longValueExact());
            }
        }
        x.oracle(10, 9);
        due.bad(x, "oracle(0, 0)", () -> x.oracle(0, 0));
        due.bad(x, "oracle(31, 3)", () -> x.oracle(31, 3));
        due.bad(x, "oracle(3, 4)", () -> x.oracle(3, 4));
        due.bad(x, "oracle(3, -1)", () -> x.oracle(3, -1));
        due.is("THE FRACTION", x.part(0), 11);
        due.is("THE FRACTION", x.part(1), 1024);
    }

    private static void tailor() {
        due.promise(24);
        MothsShare x = Due.told("bolt0 0 1;bolt0 0 1;bolt0 0 1;bolt0 0 1;holes 0 3;holes 1 5;holes 3 4;");
        int[] holesWanted = {0, 1, 5, 6, 9, 10, 12, 13};
        int[] wants = {0, 1, 1, 2, 2, 3, 3, -1};
        for (int i = 0; i < wants.length; i++) {
            due.is("tailor(" + holesWanted[i] + ", 1)", x.tailor(holesWanted[i], 1), wants[i]);
        }
        due.is("tailor(45, 9)", x.tailor(45, 9), 1);
        due.is("tailor(46, 9)", x.tailor(46, 9), 2);
        due.is("tailor(108, 9)", x.tailor(108, 9), 3);
        due.is("tailor(109, 9)", x.tailor(109, 9), -1);
        due.is("tailor(999, 9)", x.tailor(999, 9), -1);
        due.is("STATUS of none", x.status(1), 0);
        due.bad(x, "tailor(-1, 1)", () -> x.tailor(-1, 1));
        due.bad(x, "tailor(1000, 1)", () -> x.tailor(1000, 1));
        due.bad(x, "tailor(1, 0)", () -> x.tailor(1, 0));
        due.bad(x, "tailor(1, 10)", () -> x.tailor(1, 10));
        due.is("nothing told, nothing to pay", new MothsShare().tailor(0, 1), 0);
        due.is("nothing told", new MothsShare().tailor(1, 9), -1);
        MothsShare whole = Due.told("bolt0 0 1;bolt0 0 1;holes 0 0;holes 1 0;");
        due.is("without a hole", whole.tailor(1, 9), -1);
        MothsShare rich = Due.told("bolt0 0 1;".repeat(12));
        for (int b = 0; b < 12; b++) {
            rich.holes(b, 9);
        }
        due.is("all twelve", rich.tailor(972, 9), 12);
        due.is("more than all twelve", rich.tailor(973, 9), -1);
    }
}
