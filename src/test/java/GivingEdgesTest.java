/** Promises 10 to 18: each boundary that the document names has a test of its own. */
public final class GivingEdgesTest {
    private static final Edges edges = new Edges(10, 18);
    private static final int LEAST = Integer.MIN_VALUE, MOST = Integer.MAX_VALUE;
    /** Six GROUPS, MOOD 9: BOLT 0 alone pleases, for nothing; the others are worth 7 each. */
    private static final String HARD = "moth 0; taste 0 9; taste 1 0; want 9; each 2; mood 9; bolt 0 0 0;"
        + Edges.bolts(11, "1 0 7");
    /** One BOLT that does not please, at MOOD 1: BROKEN by all. */
    private static final String LOST = "mood 1; bolt 0 0 4;";
    /** Three GROUPS: 0 and 1, 2 and 3, 4; all please. */
    private static final String THREE = "each 2; want 0; mood 4; bolt 0 0 1; bolt 0 0 2; bolt 0 0 4; bolt 0 0 8; bolt 0 0 16;";

    public static void main(String[] args) {
        pleased();
        cheapestGroups();
        cheapestMoods();
        cheapestOfLikeOnes();
        cheapestWhateverIsGiven();
        number();
        stands();
        giveMood();
        giveBad();
        giveNo();
        undo();
        now();
        eatenRefused();
        eaten();
        drawn();
        edges.end();
    }

    private static void pleased() {
        edges.promise(10);
        String two = "bolt 1 0 1; bolt 2 0 1; moth 0; moth 2; taste 1 4;";
        edges.is("APPETITES of 12 for a WANT of 12", 1, two + "want 12", x -> x.pleased(0));
        edges.is("APPETITES of 12 for a WANT of 13, one more", 0, two + "want 13", x -> x.pleased(0));
        edges.is("APPETITES of 12 for a WANT of 11, one less", 1, two + "want 11", x -> x.pleased(0));
        edges.is("no MOTHS, a WANT of 0, the least", 1, "bolt 1 0 1; want 0", x -> x.pleased(0));
        edges.is("no MOTHS, a WANT of 1", 0, "bolt 1 0 1; want 1", x -> x.pleased(0));
        String most = "bolt 0 0 1; taste 0 9; moth 3; moth 3; moth 3; moth 3;";
        edges.is("the greatest APPETITES, 92, for a WANT of 92", 1, most + "want 92", x -> x.pleased(0));
        edges.is("the greatest APPETITES, 92, for a WANT of 93", 0, most + "want 93", x -> x.pleased(0));
        edges.is("the greatest APPETITES for a WANT of 99, the greatest", 0, most + "want 99", x -> x.pleased(0));
        edges.is("BOLT 11, the last of twelve", 1, Edges.bolts(12, "0 0 1") + "want 0", x -> x.pleased(11));
        edges.is("a BOLT that is given up", 1, THREE + "give 0", x -> x.pleased(0));
        edges.bad("BOLT -1", x -> x.pleased(-1));
        edges.bad("BOLT 5 of five", x -> x.pleased(5));
        edges.bad("BOLT 12 of twelve", Edges.bolts(12, "0 0 1"), x -> x.pleased(12));
        edges.bad("BOLT 0 where there is none", "moth 0", x -> x.pleased(0));
        edges.bad("the least int of a BOLT", x -> x.pleased(LEAST));
        edges.bad("the greatest int of a BOLT", x -> x.pleased(MOST));
        edges.asks("pleased(0)", x -> x.pleased(0));
    }

    private static void cheapestGroups() {
        edges.promise(11);
        edges.is("no BOLTS: WORTH 0", 0, "", x -> x.cheapest(-1));
        edges.badTen("GROUP 0 where there is none", "", x -> x.cheapest(0));
        edges.badTen("GROUP -2", x -> x.cheapest(-2));
        edges.badTen("the least int of a GROUP", x -> x.cheapest(LEAST));
        edges.badTen("the greatest int of a GROUP", x -> x.cheapest(MOST));
        String full = "want 0; mood 1;" + Edges.bolts(3, "0 0 1");
        edges.is("GROUP 0 of one that is full", 0, full, x -> x.cheapest(0));
        edges.badTen("GROUP 1 where the first is full", full, x -> x.cheapest(1));
        edges.is("GROUP 1 of one BOLT more", 3, full + "bolt 0 0 1", x -> x.cheapest(1));
        edges.badTen("GROUP 2 where the second has fewer", full + "bolt 0 0 1", x -> x.cheapest(2));
        edges.is("GROUP 5 of six", 10, HARD, x -> x.cheapest(5));
        edges.badTen("GROUP 6 of six", HARD, x -> x.cheapest(6));
        String fewer = "each 2; mood 1; want 0; bolt 0 0 9; bolt 0 0 8; bolt 0 0 7";
        edges.is("a last GROUP with fewer counts", 15, fewer, x -> x.cheapest(-1));
        edges.is("the BOLT of a last GROUP with fewer", 2, fewer, x -> x.cheapest(1));
        edges.is("a GROUP of six BOLTS gives its last", 5, "each 6; mood 1; want 5; moth 0; taste 1 4;"
            + Edges.bolts(5, "1 0 1") + "bolt 0 0 9", x -> x.cheapest(0));
        edges.asks("cheapest(NONE)", x -> x.cheapest(-1));
        edges.asks("cheapest(0)", x -> x.cheapest(0));
    }

    private static void cheapestMoods() {
        edges.is("MOOD 1 and one BOLT that does not please: BROKEN by all", -1, LOST, x -> x.cheapest(-1));
        edges.is("BROKEN by all: NONE of a GROUP, too", -1, LOST, x -> x.cheapest(0));
        edges.uncounted("BROKEN by all is no refusal", -1, LOST, x -> x.cheapest(-1));
        edges.uncounted("BROKEN by all is no refusal of a GROUP", -1, LOST, x -> x.cheapest(0));
        edges.badTen("BROKEN by all, no such GROUP:", LOST, x -> x.cheapest(1));
        edges.is("MOOD 2 less 1 is 1, not BROKEN", 4, "mood 2; bolt 0 0 4", x -> x.cheapest(-1));
        edges.is("MOOD 2 less 2 is 0, BROKEN: the BOLT", 0, "mood 2; bolt 0 0 4", x -> x.cheapest(0));
        edges.is("MOOD 3 less 2 is 1, not BROKEN: none", 12, "mood 3; bolt 0 0 4", x -> x.cheapest(0));
        edges.is("MOOD 3 less 2 is 1, not BROKEN: WORTH 0", 0, "mood 3; bolt 0 0 4", x -> x.cheapest(-1));
        edges.is("MOOD 1 and 1 is 2, not BROKEN", 4, "mood 1; want 0; bolt 0 0 4", x -> x.cheapest(-1));
        edges.is("BROKEN behind the last GROUP is BROKEN, too", -1, "each 2; mood 2;" + Edges.bolts(3, "0 0 1"),
            x -> x.cheapest(-1));
        edges.is("MOOD is 9 at most: WORTH", 14, HARD, x -> x.cheapest(-1));
        int[] row = {0, 12, 12, 12, 8, 10};
        for (int g = 0; g < row.length; g++) {
            final int group = g;
            edges.is("MOOD is 9 at most: GROUP " + g, row[g], HARD, x -> x.cheapest(group));
        }
        edges.is("the greatest WORTH of all, six of 99", 594, "each 2; mood 1; moth 0; taste 0 9; want 9;"
            + (Edges.bolts(2, "0 0 99") + Edges.bolts(2, "1 0 99")).repeat(3), x -> x.cheapest(-1));
        edges.is("the dearer BOLT where the cheaper one breaks it", 3, "each 2; mood 2; moth 0; taste 0 9; want 9;"
            + "bolt 1 0 1; bolt 0 0 3; bolt 1 0 50", x -> x.cheapest(-1));
    }

    private static void cheapestOfLikeOnes() {
        edges.is("of like ones none ahead of a BOLT", 12, "mood 5; bolt 0 0 0", x -> x.cheapest(0));
        edges.is("of like ones the lower BOLT", 0, "mood 2; bolt 0 0 4; bolt 0 0 4", x -> x.cheapest(0));
        String four = "each 2; mood 3; want 0;" + Edges.bolts(4, "0 0 4");
        edges.is("of like ones none in the first GROUP", 12, four, x -> x.cheapest(0));
        edges.is("of like ones then the lower BOLT in the second", 2, four, x -> x.cheapest(1));
        String told = "each 2; mood 3; moth 0; taste 0 9; want 9;";
        String behind = "bolt 1 0 3; bolt 1 0 9;";
        edges.is("of like ones the first GROUP goes ahead: 5 and none", 0, told + "bolt 0 0 5; bolt 1 0 2;" + behind,
            x -> x.cheapest(0));
        edges.is("of like ones the first GROUP goes ahead: 2 and 3", 0, told + "bolt 1 0 2; bolt 0 0 5;" + behind,
            x -> x.cheapest(0));
        edges.is("of like ones the first GROUP goes ahead: the 3", 2, told + "bolt 1 0 2; bolt 0 0 5;" + behind,
            x -> x.cheapest(1));
    }

    private static void cheapestWhateverIsGiven() {
        edges.is("whatever is given: WORTH", 14, HARD + "give 1; give none", x -> x.cheapest(-1));
        edges.is("whatever is given: a GROUP that had one", 0, HARD + "give 1; give none", x -> x.cheapest(0));
        edges.is("by the MOOD that was told, though it is BROKEN", 4, "mood 2; bolt 0 0 4; give none",
            x -> x.cheapest(-1));
        edges.is("by the WANT that there is now", 4, "each 2; mood 2;" + Edges.bolts(3, "0 0 4") + "give 0; want 0",
            x -> x.cheapest(-1));
    }

    private static void number() {
        edges.promise(12);
        edges.is("no BOLTS: 2, the least of like ones", 2, "", x -> x.number());
        edges.is("one BOLT: 2, the least of like ones", 2, "bolt 0 0 4", x -> x.number());
        edges.uncounted("none: by none", -1, LOST, x -> x.number());
        edges.is("2 is BROKEN by all: 3", 3, "mood 2;" + Edges.bolts(3, "0 0 4"), x -> x.number());
        edges.is("6, the greatest, alone", 6, "mood 3;" + Edges.bolts(6, "0 0 1"), x -> x.number());
        edges.is("4, 5 and 6 are like: 4", 4, "mood 3;" + Edges.bolts(4, "0 0 1"), x -> x.number());
        edges.is("5 and 6 are like: 5", 5, "mood 3;" + Edges.bolts(5, "0 0 1"), x -> x.number());
        edges.is("3 and 6 are like: 3", 3, "mood 5;" + Edges.bolts(6, "0 0 1"), x -> x.number());
        edges.is("whatever EACH is", 6, "each 2; mood 3;" + Edges.bolts(6, "0 0 1"), x -> x.number());
        edges.is("by the MOOD that was told", 6, "mood 3;" + Edges.bolts(6, "0 0 1") + "give none", x -> x.number());
        edges.is("EACH stays", 3, Edges.bolts(6, "0 0 1") + "mood 3", x -> {
            x.number();
            return x.put(0, 3);
        });
        edges.asks("number()", x -> x.number());
    }

    private static void fraction(String name, String told, long above, long below) {
        edges.is(name, 1, told, x -> x.stands());
        edges.test(name + ": THE FRACTION", due -> {
            MothsShare x = Edges.made(told);
            x.stands();
            due.is("part(0)", x.part(0), above);
            due.is("part(1)", x.part(1), below);
        });
    }

    private static void stands() {
        edges.promise(13);
        fraction("no GROUPS: 1 by 1", "", 1, 1);
        fraction("MOOD 1, the least: 11 by 20", "mood 1; want 0; bolt 0 0 0", 11, 20);
        fraction("MOOD 9, the greatest: 19 by 20", "mood 9; bolt 0 0 0", 19, 20);
        fraction("lowest terms: 14 by 20 is 7 by 10", "mood 4; bolt 0 0 0", 7, 10);
        fraction("ahead of the gift: 13 by 20 and 12 by 20", "each 2; mood 3;" + Edges.bolts(3, "0 0 1"), 39, 100);
        // 19, 19, 17, 15, 13, 12, each by 20.
        fraction("six GROUPS, 9 at most", HARD, 718029, 3200000);
        fraction("by the MOOD that was told, though it is BROKEN", "mood 2; bolt 0 0 0; give none", 3, 5);
        edges.no("BROKEN by all", LOST + "oracle 3 1", x -> x.stands());
        edges.test("it changes THE FRACTION alone", due -> {
            MothsShare x = Edges.rich();
            due.is("stands()", x.stands(), 1);
            x.oracle(3, 1);
            Edges.alike(due, x, Edges.rich());
        });
    }

    private static void giveMood() {
        edges.promise(14);
        edges.is("one that pleases: MOOD and 1", 6, "want 0; bolt 0 0 0", x -> x.give(0));
        edges.is("APPETITES that are WANT please", 6, "moth 0; want 5; bolt 0 0 0", x -> x.give(0));
        edges.is("APPETITES that are WANT less 1 do not", 4, "moth 0; want 6; bolt 0 0 0", x -> x.give(0));
        edges.is("none: MOOD less 2", 3, "bolt 0 0 0", x -> x.give(-1));
        edges.is("8 and 1 is 9", 9, "mood 8; want 0; bolt 0 0 0", x -> x.give(0));
        edges.is("9 at most", 9, "mood 9; want 0; bolt 0 0 0", x -> x.give(0));
        edges.is("2 less 1 is 1", 1, "mood 2; bolt 0 0 0", x -> x.give(0));
        edges.is("1 less 1 is 0", 0, "mood 1; bolt 0 0 0", x -> x.give(0));
        edges.is("3 less 2 is 1", 1, "mood 3; bolt 0 0 0", x -> x.give(-1));
        edges.is("2 less 2 is 0", 0, "mood 2; bolt 0 0 0", x -> x.give(-1));
        edges.is("1 less 2 is 0, where it would be below", 0, "mood 1; bolt 0 0 0", x -> x.give(-1));
        edges.is("at MOOD 1 it goes on", 2, "each 2; mood 3; want 0;" + Edges.bolts(3, "0 0 0") + "give none",
            x -> x.give(2));
        edges.is("by MOOD as it is then, not as it was told", 6, THREE + "give 0", x -> x.give(2));
        edges.is("the last BOLT of the first GROUP", 5, THREE, x -> x.give(1));
        edges.is("the first BOLT of the next GROUP", 6, THREE + "give 1", x -> x.give(2));
        edges.is("the one BOLT of a last GROUP with fewer", 7, THREE + "give 1; give 2", x -> x.give(4));
        String twelve = "each 2; want 0; mood 3;" + Edges.bolts(12, "0 0 1") + "give 0; give 2; give 4; give 6; give 8;";
        edges.is("the sixth GROUP's last BOLT", 9, twelve, x -> x.give(11));
        edges.is("a WANT told later leaves MOOD behind a gift", 5, THREE + "give 0; want 99", x -> x.now(0));
        edges.is("a WANT told later counts from then on", 4, THREE + "give 0; want 99", x -> x.give(2));
        edges.uncounted("what breaks it is no refusal", 0, "mood 1; bolt 0 0 0", x -> x.give(-1));
    }

    private static void giveBad() {
        edges.bad("BOLT 0 where there is none", "", x -> x.give(0));
        edges.bad("BOLT -2, one below NONE", THREE, x -> x.give(-2));
        edges.bad("BOLT 5 of five", THREE + "give 0; give 2", x -> x.give(5));
        edges.bad("BOLT 1 of one, in a GROUP that has place", "bolt 0 0 0", x -> x.give(1));
        edges.bad("the least int of a BOLT", x -> x.give(LEAST));
        edges.bad("the greatest int of a BOLT", x -> x.give(MOST));
        edges.bad("the first BOLT of the GROUP behind the next", THREE, x -> x.give(2));
        edges.bad("the last BOLT of the GROUP ahead of the next", THREE + "give 0", x -> x.give(1));
        edges.bad("a BOLT that is given up, once more", THREE + "give 0", x -> x.give(0));
        edges.bad("BOLT 5 of five, where no GROUP is next", THREE + "give 0; give 2; give 4", x -> x.give(5));
        edges.bad("BOLT -2, where no GROUP is next", THREE + "give 0; give 2; give 4", x -> x.give(-2));
        edges.bad("BOLT 1 of one, where it is BROKEN", LOST + "give none", x -> x.give(1));
        edges.bad("BOLT -2, where it is BROKEN", LOST + "give none", x -> x.give(-2));
        edges.bad("BOLT 12 of twelve", Edges.bolts(12, "0 0 0"), x -> x.give(12));
    }

    private static void giveNo() {
        edges.no("none where there are no GROUPS", "", x -> x.give(-1));
        edges.no("none where no GROUP is next", THREE + "give 0; give 2; give 4", x -> x.give(-1));
        edges.no("a BOLT of the last GROUP where none is next", THREE + "give 0; give 2; give 4", x -> x.give(4));
        edges.no("a BOLT of the first GROUP where none is next", THREE + "give 0; give 2; give none", x -> x.give(0));
        String broken = "each 2; mood 1;" + Edges.bolts(3, "0 0 0") + "give 0;";
        edges.no("none where it is BROKEN", broken, x -> x.give(-1));
        edges.no("a BOLT of the GROUP that would be next where it is BROKEN", broken, x -> x.give(2));
        edges.no("a BOLT of another GROUP where it is BROKEN", broken, x -> x.give(1));
        edges.no("BROKEN by the last GROUP", LOST + "give 0", x -> x.give(-1));
        String twelve = "each 2; want 0;" + Edges.bolts(12, "0 0 1")
            + "give 0; give 2; give 4; give 6; give 8; give 11;";
        edges.no("a seventh gift", twelve, x -> x.give(-1));
        edges.test("behind a gift that was refused one of the next GROUP is taken", due -> {
            MothsShare x = Edges.made(THREE);
            x.give(2);
            due.is("give(0)", x.give(0), 5);
        });
    }

    private static void undo() {
        edges.promise(15);
        edges.no("nothing is given at first", THREE, x -> x.undo());
        edges.no("no BOLTS", "", x -> x.undo());
        edges.is("one gift", 1, THREE + "give 0", x -> x.undo());
        edges.is("one that was none", 1, THREE + "give none", x -> x.undo());
        edges.no("all is undone", THREE + "give 0; give none; undo; undo", x -> x.undo());
        String twelve = "each 2; want 0; mood 2;" + Edges.bolts(12, "0 0 1")
            + "give 0; give 2; give 4; give 6; give 8; give 11;";
        edges.test("all six may be undone", due -> {
            MothsShare x = Edges.made(twelve);
            for (int left = 5; left >= 0; left--) {
                due.is("undo()", x.undo(), 1);
                due.is("now(0)", x.now(0), 2 + left);
                due.is("now(1)", x.now(1), left);
            }
            due.is("undo()", x.undo(), -3);
        });
        edges.is("MOOD as ahead of the only gift is as told", 4, THREE + "give 0; undo", x -> x.now(0));
        edges.is("MOOD as ahead of the last gift", 5, THREE + "give 0; give none; undo", x -> x.now(0));
        edges.is("MOOD as ahead of a gift at 9", 9, "mood 9; want 0; bolt 0 0 0; give 0; undo", x -> x.now(0));
        edges.is("MOOD as ahead of none at 1, where it was below", 1, LOST + "give none; undo", x -> x.now(0));
        edges.noTwenty("behind an undo of what broke it it is BROKEN no more", LOST + "give none; undo",
            x -> x.eaten(-1));
        edges.is("behind an undo of what broke it there is a gift again", 2, LOST + "give none; want 0; undo",
            x -> x.give(0));
        edges.is("the BOLT is given up no more", 1, THREE + "give 0; give 2; undo", x -> x.now(2));
        edges.is("the same BOLT may be given once more", 6, THREE + "give 0; give 2; undo", x -> x.give(2));
        edges.is("WANT stays", 99, THREE + "give 0; want 99; undo", x -> x.put(1, 0));
        edges.is("TASTES stay", 1, THREE + "give 0; taste 2 1; undo", x -> x.taste(2, 0));
        edges.is("MOOD as it was then, though WANT is another", 5, THREE + "give 0; want 99; give 2; undo",
            x -> x.now(0));
    }

    private static void now() {
        edges.promise(16);
        edges.is("MOOD now at first is the one told", 9, "mood 9", x -> x.now(0));
        edges.is("MOOD now where it is BROKEN is 0", 0, LOST + "give none", x -> x.now(0));
        edges.is("GROUPS that had none count, too", 1, THREE + "give none", x -> x.now(1));
        edges.is("GROUPS, all of them", 3, THREE + "give 0; give none; give 4", x -> x.now(1));
        edges.is("BOLT 0 is bit 0", 1, THREE + "give 0", x -> x.now(2));
        edges.is("a GROUP that had none has no bit", 0, THREE + "give none", x -> x.now(2));
        edges.is("BOLT 11 is bit 11", 2048, "each 6; want 0;" + Edges.bolts(12, "0 0 1") + "give none; give 11",
            x -> x.now(2));
        edges.is("WORTH of none is 0", 0, THREE + "give none", x -> x.now(3));
        edges.is("WORTH of all", 26, THREE + "give 1; give 3; give 4", x -> x.now(3));
        edges.is("WORTH, the greatest, six of 99", 594, "each 2; want 0;" + Edges.bolts(12, "0 0 99")
            + "give 0; give 2; give 4; give 6; give 8; give 10", x -> x.now(3));
        edges.bad("what of -1", x -> x.now(-1));
        edges.bad("what of 4", x -> x.now(4));
        edges.bad("the least int of what", x -> x.now(LEAST));
        edges.bad("the greatest int of what", x -> x.now(MOST));
        for (int w = 0; w < 4; w++) {
            final int what = w;
            edges.asks("now(" + w + ")", x -> x.now(what));
        }
    }

    private static void eatenRefused() {
        edges.promise(17);
        String broken = LOST + "moth 0; give 0;";
        edges.noTwenty("not BROKEN, NONE", "moth 0; bolt 0 0 0", x -> x.eaten(-1));
        edges.noTwenty("not BROKEN, MOTH 0", "moth 0; bolt 0 0 0", x -> x.eaten(0));
        edges.noTwenty("MOOD 1 is not BROKEN", "mood 2; bolt 0 0 0; give 0", x -> x.eaten(-1));
        edges.is("MOOD 0 is BROKEN", 0, broken, x -> x.eaten(-1));
        edges.noTwenty("all GROUPS had one and it is not BROKEN", THREE + "give 0; give 2; give 4", x -> x.eaten(-1));
        edges.badTen("MOTH -2, one below NONE", broken, x -> x.eaten(-2));
        edges.badTen("MOTH 1 of one", broken, x -> x.eaten(1));
        edges.badTen("MOTH 0 of none", LOST + "give 0", x -> x.eaten(0));
        edges.badTen("MOTH 4 of four", LOST + "moth 0; moth 0; moth 0; moth 0; give 0", x -> x.eaten(4));
        edges.badTen("the least int of a MOTH", broken, x -> x.eaten(LEAST));
        edges.badTen("the greatest int of a MOTH", broken, x -> x.eaten(MOST));
        edges.badTen("not BROKEN, MOTH 1 of one", "moth 0; bolt 0 0 0", x -> x.eaten(1));
        edges.badTen("not BROKEN, MOTH -2", "moth 0; bolt 0 0 0", x -> x.eaten(-2));
        edges.badTen("not BROKEN, MOTH 0 of none", "bolt 0 0 0", x -> x.eaten(0));
    }

    private static void eaten() {
        String one = "mood 1; moth 0; bolt 1 0 0; want 99;";
        edges.is("no MOTHS eat nothing", 0, LOST + "give none", x -> x.eaten(-1));
        edges.is("an APPETITE of 1 is above 0", 0, one + "taste 1 1; give none", x -> x.eaten(0));
        edges.is("an APPETITE of 1, as bits", 1, one + "taste 1 1; give none", x -> x.eaten(-1));
        edges.is("an APPETITE of 0 eats none", -1, one + "taste 1 0; give none", x -> x.eaten(0));
        edges.is("an APPETITE of 0, as bits", 0, one + "taste 1 0; give none", x -> x.eaten(-1));
        edges.uncounted("that a MOTH eats none is no refusal", -1, one + "taste 1 0; give none", x -> x.eaten(0));
        edges.is("a BOLT that is given up is gone", -1, one + "give 0", x -> x.eaten(0));
        edges.is("a BOLT that is given up is gone, as bits", 0, one + "give 0", x -> x.eaten(-1));
        String two = "mood 1; want 99; moth 0; moth 0; bolt 1 0 0; bolt 1 0 0; give none;";
        edges.is("of like ones the least", 0, two, x -> x.eaten(0));
        edges.is("one that is eaten is gone for the next MOTH", 1, two, x -> x.eaten(1));
        edges.is("both, as bits", 3, two, x -> x.eaten(-1));
        edges.is("the greatest, though it comes last", 2, "mood 1; want 99; moth 0; taste 2 6; bolt 1 0 0; bolt 1 0 0; bolt 2 0 0; give none",
            x -> x.eaten(0));
        String more = "mood 1; want 99; moth 0; moth 0; moth 0; bolt 1 0 0; bolt 1 0 0; give none;";
        edges.is("more MOTHS than BOLTS: the last eats none", -1, more, x -> x.eaten(2));
        edges.is("more MOTHS than BOLTS, as bits", 3, more, x -> x.eaten(-1));
        edges.is("a MOTH behind one that eats none", 0, "mood 1; want 99; moth 1; moth 0; bolt 1 3 0; give none",
            x -> x.eaten(1));
        edges.is("MOTH 3 eats BOLT 11, the last ones", 11, "mood 1; want 99; each 6; moth 1; moth 1; moth 1; moth 0; taste 0 0; taste 2 0;"
            + Edges.bolts(11, "2 0 0") + "bolt 1 3 0; give none", x -> x.eaten(3));
        edges.is("by the TASTES that there are now", -1, two + "taste 1 0", x -> x.eaten(0));
        edges.test("asked, it changes nothing", due -> {
            MothsShare x = Edges.made(two);
            x.eaten(-1);
            x.eaten(0);
            Edges.alike(due, x, Edges.made(two));
        });
    }

    private static void drawn() {
        edges.promise(18);
        // What is left over by 20 in the first GROUP: of 0 it is 0, of 11 it is 1, of 2 it is 8, of 16 it is 9.
        String nine = "mood 9; bolt 0 0 0;";
        String one = "mood 1; want 0; bolt 0 0 0;";
        edges.is("MOOD 9, 0 left over: less than 1", 0, nine, x -> x.drawn(0));
        edges.is("MOOD 9, 1 left over: not less than 1", -1, nine, x -> x.drawn(11));
        edges.is("MOOD 1, 8 left over: less than 9", 0, one, x -> x.drawn(2));
        edges.is("MOOD 1, 9 left over: not less than 9", -1, one, x -> x.drawn(16));
        edges.is("the second GROUP, MOOD 7, 2 left over: less than 3", 1, nine + Edges.bolts(3, "0 0 0"), x -> x.drawn(18));
        edges.is("the second GROUP, MOOD 7, 3 left over: not less than 3", -1, nine + Edges.bolts(3, "0 0 0"), x -> x.drawn(12));
        edges.is("the sixth GROUP, MOOD 2, 7 left over: less than 8", 5, HARD, x -> x.drawn(1));
        edges.is("the sixth GROUP, MOOD 2, 8 left over: not less than 8", -1, HARD, x -> x.drawn(85));
        edges.is("the fifth GROUP, MOOD 3, 6 left over: less than 7", 4, HARD, x -> x.drawn(22));
        edges.is("the fifth GROUP, MOOD 3, 7 left over: not less than 7", -1, HARD, x -> x.drawn(4));
        edges.is("of two GROUPS that break it the first", 0, "each 2; mood 2; want 0; bolt 0 0 0; bolt 0 0 0; bolt 0 0 0", x -> x.drawn(0));
        edges.is("a SEED of 999999, the greatest", 0, one, x -> x.drawn(999999));
        edges.is("a SEED of 999999, 8 left over: not less than 1", -1, nine, x -> x.drawn(999999));
        edges.uncounted("none is no refusal", -1, nine, x -> x.drawn(11));
        edges.uncounted("no GROUPS: none", -1, "", x -> x.drawn(0));
        edges.bad("a SEED of -1", x -> x.drawn(-1));
        edges.bad("a SEED of 1000000", x -> x.drawn(1000000));
        edges.bad("the least int of a SEED", x -> x.drawn(LEAST));
        edges.bad("the greatest int of a SEED", x -> x.drawn(MOST));
        edges.no("BROKEN by all", LOST, x -> x.drawn(0));
        edges.bad("BROKEN by all, a SEED of -1", LOST, x -> x.drawn(-1));
        edges.bad("BROKEN by all, a SEED of 1000000", LOST, x -> x.drawn(1000000));
        edges.is("by the MOOD that was told, though it is BROKEN", -1, "mood 2; bolt 0 0 0; give none", x -> x.drawn(2));
        edges.asks("drawn(7)", x -> x.drawn(7));
    }
}
