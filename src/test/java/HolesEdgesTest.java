/** Promises 19 to 24: each boundary that the document names has a test of its own. */
public final class HolesEdgesTest {
    private static final Edges edges = new Edges(19, 24);
    private static final int LEAST = Integer.MIN_VALUE, MOST = Integer.MAX_VALUE;

    public static void main(String[] args) {
        holes();
        holesBad();
        byWhom();
        byWhomRefused();
        mouth();
        mouthRefused();
        cedar();
        cedarEdges();
        oracle();
        tailor();
        tailorEdges();
        edges.end();
    }

    private static void holes() {
        edges.promise(19);
        String one = "bolt 1 1 1;";
        edges.is("none was told at first", -1, one, x -> x.holes(0, 5));
        edges.uncounted("that none was told is no refusal", -1, one, x -> x.holes(0, 5));
        edges.is("HOLES of 0, the least, are taken", 0, one + "holes 0 0", x -> x.holes(0, 5));
        edges.is("HOLES of 99, the greatest, are taken", 99, one + "holes 0 99", x -> x.holes(0, 5));
        edges.is("NONE: what they were", 7, one + "holes 0 7", x -> x.holes(0, -1));
        edges.is("NONE: none are told", -1, one + "holes 0 7; holes 0 none", x -> x.holes(0, 5));
        edges.is("NONE where none was told", -1, one, x -> x.holes(0, -1));
        edges.is("NONE: they bind BY WHOM no more", 1, one + "holes 0 7; holes 0 none", x -> x.byWhom(0));
        edges.bad("NONE: MOUTH has none told", one + "holes 0 7; holes 0 none", x -> x.mouth(0, 0));
        edges.is("HOLES of 0 are told", 0, one + "moth 0; holes 0 0", x -> x.byWhom(1));
        edges.is("HOLES of 0 are told: one set of two", 1, one + "moth 0; holes 0 0", x -> x.byWhom(0));
        edges.is("BOLT 11, the last of twelve", -1, Edges.bolts(12, "1 1 1"), x -> x.holes(11, 5));
        edges.is("the HOLES of another BOLT stay", 7, one + one + "holes 0 7; holes 1 8", x -> x.holes(0, 5));
        String given = "each 2; want 0;" + Edges.bolts(3, "1 1 1") + "give 0; give 2;";
        edges.is("HOLES leave what is given", 2, given + "holes 0 7", x -> x.now(1));
        edges.is("behind HOLES a gift can be undone", 1, given + "holes 0 7", x -> x.undo());
    }

    private static void holesBad() {
        edges.badTen("HOLES of -2, one below NONE", x -> x.holes(0, -2));
        edges.badTen("HOLES of 100", x -> x.holes(0, 100));
        edges.badTen("the least int of HOLES", x -> x.holes(0, LEAST));
        edges.badTen("the greatest int of HOLES", x -> x.holes(0, MOST));
        edges.badTen("BOLT -1", x -> x.holes(-1, 5));
        edges.badTen("BOLT 5 of five", x -> x.holes(5, 5));
        edges.badTen("BOLT 12 of twelve", Edges.bolts(12, "1 1 1"), x -> x.holes(12, 5));
        edges.badTen("BOLT 0 where there is none", "", x -> x.holes(0, 0));
        edges.badTen("the least int of a BOLT", x -> x.holes(LEAST, 5));
        edges.badTen("the greatest int of a BOLT", x -> x.holes(MOST, 5));
    }

    /** A COMMON MOTH with this APPETITE alone made so many HOLES. */
    private static void madeBy(int taste, int holes) {
        edges.is("an APPETITE of " + taste + " makes " + holes + " of them", 1,
            "moth 0; taste 1 " + taste + "; bolt 1 0 0; bolt 2 0 0; taste 2 9; holes 1 3; holes 0 " + holes,
            x -> x.byWhom(1));
    }

    private static void byWhom() {
        edges.promise(20);
        String four = "moth 0; moth 0; moth 0; moth 0;";
        edges.is("no BOLTS, no MOTHS: one set", 1, "", x -> x.byWhom(0));
        edges.is("no BOLTS, no MOTHS: the empty one", 0, "", x -> x.byWhom(1));
        edges.is("no HOLES told, one MOTH: two sets", 2, "moth 0; bolt 0 0 0", x -> x.byWhom(0));
        edges.is("no HOLES told, four MOTHS: 16 sets", 16, four + "bolt 0 0 0", x -> x.byWhom(0));
        edges.is("no HOLES told: the empty one is the least", 0, four + "bolt 0 0 0", x -> x.byWhom(1));
        edges.is("no MOTHS, HOLES of 0: one set", 1, "bolt 0 0 0; holes 0 0", x -> x.byWhom(0));
        edges.is("no MOTHS, HOLES of 1: none", 0, "bolt 0 0 0; holes 0 1", x -> x.byWhom(0));
        madeBy(0, 0);
        madeBy(2, 0);
        madeBy(3, 1);
        madeBy(5, 1);
        madeBy(6, 2);
        madeBy(8, 2);
        madeBy(9, 3);
        edges.is("each MOTH is cut by itself: two of 5 make 2", 3, "moth 0; moth 0; bolt 1 0 0; holes 0 2", x -> x.byWhom(1));
        edges.is("all four MOTHS, the greatest set", 15, four + "bolt 1 0 0; holes 0 4", x -> x.byWhom(1));
        edges.is("of four sets of one MOTH each the least", 1, four + "bolt 1 0 0; holes 0 1", x -> x.byWhom(1));
        edges.is("four sets of one MOTH each", 4, four + "bolt 1 0 0; holes 0 1", x -> x.byWhom(0));
        edges.is("six sets of two MOTHS each", 6, four + "bolt 1 0 0; holes 0 2", x -> x.byWhom(0));
        edges.is("of them the least bits", 3, four + "bolt 1 0 0; holes 0 2", x -> x.byWhom(1));
        String two = "moth 1; moth 0; bolt 1 3 0; bolt 1 0 0;";
        edges.is("the set is alike at all BOLTS of which HOLES were told", 2, two + "holes 0 1; holes 1 1", x -> x.byWhom(1));
        edges.is("a BOLT of which none were told binds nothing", 1, two + "holes 1 1", x -> x.byWhom(1));
        edges.is("a BOLT that is given up binds as ever", 2, two + "holes 0 1; holes 1 1; give 0", x -> x.byWhom(1));
    }

    private static void byWhomRefused() {
        String none = "moth 0; bolt 1 0 0; holes 0 2;";
        edges.uncounted("how many of none: 0, no refusal", 0, none, x -> x.byWhom(0));
        edges.no("none did it", none, x -> x.byWhom(1));
        edges.no("no MOTHS, and HOLES", "bolt 1 0 0; holes 0 1", x -> x.byWhom(1));
        edges.bad("what of -1", x -> x.byWhom(-1));
        edges.bad("what of 2", x -> x.byWhom(2));
        edges.bad("the least int of what", x -> x.byWhom(LEAST));
        edges.bad("the greatest int of what", x -> x.byWhom(MOST));
        edges.bad("none did it, what of 2", none, x -> x.byWhom(2));
        edges.bad("none did it, what of -1", none, x -> x.byWhom(-1));
        edges.asks("byWhom(0)", x -> x.byWhom(0));
        edges.asks("byWhom(1)", x -> x.byWhom(1));
    }

    /** At BOLT 0 the MOTHS make 3, 1, 3 HOLES; of 6 and 1 told the set is of the first, the third. */
    private static final String TWO_OF_THREE = "moth 0; moth 1; moth 0; taste 0 9; bolt 0 3 0; bolt 1 0 0; holes 0 6; holes 1 2;";

    private static void mouth() {
        edges.promise(21);
        edges.is("hole 0, the first", 0, TWO_OF_THREE, x -> x.mouth(0, 0));
        edges.is("hole 2, the first MOTH's last", 0, TWO_OF_THREE, x -> x.mouth(0, 2));
        edges.is("hole 3, the next MOTH's first: one that was not there made none", 2, TWO_OF_THREE, x -> x.mouth(0, 3));
        edges.is("hole 5, the last of six", 2, TWO_OF_THREE, x -> x.mouth(0, 5));
        edges.is("hole 6 of six: NONE", -1, TWO_OF_THREE, x -> x.mouth(0, 6));
        edges.is("the greatest int of a hole: NONE", -1, TWO_OF_THREE, x -> x.mouth(0, MOST));
        edges.uncounted("NONE is no refusal", -1, TWO_OF_THREE, x -> x.mouth(0, 6));
        edges.is("the other BOLT's hole 1", 2, TWO_OF_THREE, x -> x.mouth(1, 1));
        edges.is("the other BOLT's hole 2 of two: NONE", -1, TWO_OF_THREE, x -> x.mouth(1, 2));
        edges.is("hole 0 of no HOLES: NONE", -1, "moth 0; bolt 0 0 0; holes 0 0", x -> x.mouth(0, 0));
        edges.is("hole 0 of no HOLES, no MOTHS: NONE", -1, "bolt 0 0 0; holes 0 0", x -> x.mouth(0, 0));
        edges.is("of like sets the least did it", 0, "moth 0; moth 0; bolt 0 0 0; holes 0 1", x -> x.mouth(0, 0));
        edges.is("MOTH 3 alone", 3, "moth 1; moth 1; moth 1; moth 0; bolt 0 3 0; holes 0 1", x -> x.mouth(0, 0));
        edges.is("BOLT 11, the last of twelve", 0, "moth 0;" + Edges.bolts(12, "0 0 0") + "holes 11 1",
            x -> x.mouth(11, 0));
    }

    private static void mouthRefused() {
        String none = "moth 0; bolt 0 0 0; bolt 0 0 0; holes 0 2;";
        edges.bad("hole -1", TWO_OF_THREE, x -> x.mouth(0, -1));
        edges.bad("the least int of a hole", TWO_OF_THREE, x -> x.mouth(0, LEAST));
        edges.bad("BOLT -1", x -> x.mouth(-1, 0));
        edges.bad("BOLT 2 of two", TWO_OF_THREE, x -> x.mouth(2, 0));
        edges.bad("BOLT 0 where there is none", "moth 0", x -> x.mouth(0, 0));
        edges.bad("BOLT 12 of twelve", Edges.bolts(12, "0 0 0"), x -> x.mouth(12, 0));
        edges.bad("the least int of a BOLT", x -> x.mouth(LEAST, 0));
        edges.bad("the greatest int of a BOLT", x -> x.mouth(MOST, 0));
        edges.bad("a BOLT of which no HOLES are told", "moth 0; bolt 0 0 0; bolt 0 0 0; holes 0 1", x -> x.mouth(1, 0));
        edges.no("none did it", none, x -> x.mouth(0, 0));
        edges.no("none did it, a hole behind all: NO goes ahead of NONE", none, x -> x.mouth(0, 99));
        edges.no("none did it at another BOLT", "moth 0; bolt 0 0 0; bolt 0 0 0; holes 0 1; holes 1 2", x -> x.mouth(0, 0));
        edges.bad("none did it, hole -1", none, x -> x.mouth(0, -1));
        edges.bad("none did it, a BOLT of which no HOLES are told", none, x -> x.mouth(1, 0));
        edges.bad("none did it, BOLT 2 of two", none, x -> x.mouth(2, 0));
        edges.asks("mouth(0, 0)", x -> x.mouth(0, 0));
    }

    private static void cedar() {
        edges.promise(22);
        edges.is("a LIMIT of 0, the least", 1, "moth 1; bolt 0 0 0", x -> x.cedar(0));
        edges.is("a LIMIT of 40, the greatest", 0, "moth 3; taste 0 9; bolt 0 0 0", x -> x.cedar(40));
        edges.bad("a LIMIT of -1", x -> x.cedar(-1));
        edges.bad("a LIMIT of 41", x -> x.cedar(41));
        edges.bad("the least int of a LIMIT", x -> x.cedar(LEAST));
        edges.bad("the greatest int of a LIMIT", x -> x.cedar(MOST));
        edges.bad("nothing told, a LIMIT of 41", "", x -> x.cedar(41));
        edges.is("no BOLTS, no MOTHS: no set but the empty one", 0, "", x -> x.cedar(0));
        edges.is("no BOLTS", 0, "moth 0", x -> x.cedar(0));
        edges.is("no MOTHS", 0, "bolt 0 0 0", x -> x.cedar(0));
        edges.is("an APPETITE that is the LIMIT is not above it", 0, "moth 1; bolt 0 0 0", x -> x.cedar(5));
        edges.is("an APPETITE of the LIMIT and 1 is", 1, "moth 1; bolt 0 0 0", x -> x.cedar(4));
        edges.uncounted("one that minds no cedar: none, no refusal", -1, "moth 0; bolt 0 0 0", x -> x.cedar(4));
        edges.is("one that minds no cedar at the LIMIT", 0, "moth 0; bolt 0 0 0", x -> x.cedar(5));
        edges.is("an APPETITE of 0 is not above 0", 0, "moth 0; taste 0 0; bolt 0 0 0", x -> x.cedar(0));
        edges.asks("cedar(4)", x -> x.cedar(4));
    }

    private static void cedarEdges() {
        edges.is("all twelve BOLTS", 4095, "moth 1;" + Edges.bolts(12, "0 0 0"), x -> x.cedar(4));
        edges.is("BOLT 11 alone", 2048, "moth 1; taste 0 4;" + Edges.bolts(11, "0 0 0") + "bolt 1 0 0", x -> x.cedar(4));
        edges.is("one that smells of cedar needs none", 2, "moth 1; bolt 0 3 0; bolt 0 0 0", x -> x.cedar(4));
        edges.is("one that smells of cedar, and is too sweet all the same: none", -1, "moth 0; bolt 0 3 0",
            x -> x.cedar(4));
        edges.is("a RIVAL's 3 for sheep go with the SMELL", 1, "moth 4; taste 0 0; bolt 0 1 0", x -> x.cedar(2));
        edges.is("a RIVAL's 3 for sheep at the LIMIT", 0, "moth 4; taste 0 0; bolt 0 1 0", x -> x.cedar(3));
        edges.is("a GREYLING's 23, one above a LIMIT of 22", -1, "moth 3; taste 0 9; bolt 0 0 0", x -> x.cedar(22));
        edges.is("a GREYLING's 23 at a LIMIT of 23", 0, "moth 3; taste 0 9; bolt 0 0 0", x -> x.cedar(23));
        // The SHY one's 9 goes, the BLIND one's 4 stays.
        edges.is("one of two MOTHS needs it, the other keeps below", 1, "moth 5; moth 1; taste 0 9; bolt 0 0 0",
            x -> x.cedar(4));
        edges.is("one of two MOTHS that minds no cedar: none", -1, "moth 1; moth 0; bolt 0 0 0", x -> x.cedar(4));
        edges.is("one of two BOLTS that none helps: none", -1, "moth 1; moth 0; taste 0 5; taste 1 1; bolt 1 0 0; bolt 0 0 0",
            x -> x.cedar(4));
        edges.is("a BOLT that is given up counts as ever", 1, "moth 1; bolt 0 0 0; give 0", x -> x.cedar(4));
    }

    private static void chance(int n, int k, long above, long below) {
        edges.test("right " + k + " of " + n + " times: " + above + " by " + below, due -> {
            MothsShare x = new MothsShare();
            due.is("oracle(" + n + ", " + k + ")", x.oracle(n, k), 1);
            due.is("part(0)", x.part(0), above);
            due.is("part(1)", x.part(1), below);
        });
    }

    private static void oracle() {
        edges.promise(23);
        chance(1, 0, 1, 1);
        chance(1, 1, 1, 2);
        chance(2, 1, 3, 4);
        chance(10, 9, 11, 1024);
        chance(30, 0, 1, 1);
        chance(30, 1, 1073741823L, 1073741824L);
        chance(30, 15, 76803709, 134217728);
        chance(30, 29, 31, 1073741824L);
        chance(30, 30, 1, 1073741824L);
        chance(3, 2, 1, 2);
        edges.bad("asked 0 times", x -> x.oracle(0, 0));
        edges.bad("asked 31 times", x -> x.oracle(31, 3));
        edges.bad("asked -1 times", x -> x.oracle(-1, -1));
        edges.bad("right -1 times", x -> x.oracle(3, -1));
        edges.bad("right once more than asked", x -> x.oracle(3, 4));
        edges.bad("right 31 times of 30", x -> x.oracle(30, 31));
        edges.bad("the least int of n", x -> x.oracle(LEAST, 0));
        edges.bad("the greatest int of n", x -> x.oracle(MOST, 1));
        edges.bad("the least int of k", x -> x.oracle(3, LEAST));
        edges.bad("the greatest int of k", x -> x.oracle(3, MOST));
        edges.test("it changes THE FRACTION alone", due -> {
            MothsShare x = Edges.rich();
            x.oracle(30, 30);
            x.oracle(3, 1);
            Edges.alike(due, x, Edges.rich());
        });
    }

    private static void tailor() {
        edges.promise(24);
        String told = "bolt 0 0 0; bolt 0 0 0; bolt 0 0 0; bolt 0 0 0; holes 0 3; holes 1 5; holes 3 4;";
        edges.is("a WORTH of 0, the least: no BOLTS", 0, told, x -> x.tailor(0, 1));
        edges.is("a WORTH of 0 where nothing is told", 0, "", x -> x.tailor(0, 1));
        edges.is("a WORTH of 1: one", 1, told, x -> x.tailor(1, 1));
        edges.is("a WORTH of 999, the greatest", 2, "bolt 0 0 0; bolt 0 0 0; holes 0 99; holes 1 99", x -> x.tailor(999, 9));
        edges.is("a RATE of 1, the least: just enough by one", 1, told, x -> x.tailor(5, 1));
        edges.is("a RATE of 1: one more than by one", 2, told, x -> x.tailor(6, 1));
        edges.is("a RATE of 9, the greatest: just enough by one", 1, told, x -> x.tailor(45, 9));
        edges.is("a RATE of 9: one more than by one", 2, told, x -> x.tailor(46, 9));
        edges.is("just enough by all", 3, told, x -> x.tailor(12, 1));
        edges.uncounted("one more than all: none, no refusal", -1, told, x -> x.tailor(13, 1));
        edges.is("just enough by two at a RATE of 9", 2, told, x -> x.tailor(81, 9));
        edges.is("one more than two at a RATE of 9", 3, told, x -> x.tailor(82, 9));
        edges.bad("a WORTH of -1", x -> x.tailor(-1, 1));
        edges.bad("a WORTH of 1000", x -> x.tailor(1000, 1));
        edges.bad("a RATE of 0", x -> x.tailor(1, 0));
        edges.bad("a RATE of 10", x -> x.tailor(1, 10));
        edges.bad("the least int of a WORTH", x -> x.tailor(LEAST, 1));
        edges.bad("the greatest int of a WORTH", x -> x.tailor(MOST, 1));
        edges.bad("the least int of a RATE", x -> x.tailor(1, LEAST));
        edges.bad("the greatest int of a RATE", x -> x.tailor(1, MOST));
        edges.asks("tailor(7, 2)", x -> x.tailor(7, 2));
    }

    private static void tailorEdges() {
        edges.is("no HOLES told: none", -1, "bolt 0 0 0", x -> x.tailor(1, 9));
        edges.is("no BOLTS: none", -1, "", x -> x.tailor(1, 9));
        edges.is("HOLES of 0 alone: none", -1, "bolt 0 0 0; holes 0 0", x -> x.tailor(1, 9));
        edges.is("HOLES that are told no more pay nothing", -1, "bolt 0 0 0; holes 0 7; holes 0 none", x -> x.tailor(1, 9));
        edges.is("one HOLE by 9 for 9", 1, "bolt 0 0 0; holes 0 1", x -> x.tailor(9, 9));
        edges.is("one HOLE by 9 for 10: none", -1, "bolt 0 0 0; holes 0 1", x -> x.tailor(10, 9));
        StringBuilder twelve = new StringBuilder(Edges.bolts(12, "0 0 0"));
        for (int b = 0; b < 12; b++) {
            twelve.append("holes ").append(b).append(" 9;");
        }
        String all = twelve.toString();
        edges.is("all twelve BOLTS", 12, all, x -> x.tailor(972, 9));
        edges.is("eleven BOLTS", 11, all, x -> x.tailor(891, 9));
        edges.is("one more than all twelve: none", -1, all, x -> x.tailor(973, 9));
        edges.is("the greatest WORTH, above all twelve: none", -1, all, x -> x.tailor(999, 9));
        edges.is("eleven of 99 for 999 at a RATE of 1", 11, Edges.bolts(12, "0 0 0")
            + "holes 0 99; holes 1 99; holes 2 99; holes 3 99; holes 4 99; holes 5 99; holes 6 99; holes 7 99;"
            + "holes 8 99; holes 9 99; holes 10 99; holes 11 99", x -> x.tailor(999, 1));
        edges.is("a BOLT that is given up pays as ever", 1, "bolt 0 0 0; holes 0 1; give 0", x -> x.tailor(1, 1));
    }
}
