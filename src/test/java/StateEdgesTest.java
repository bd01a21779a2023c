import java.util.function.ToLongFunction;

/** Promises 25 to 30: each boundary that the document names has a test of its own. */
public final class StateEdgesTest {
    private static final Edges edges = new Edges(25, 30);
    private static final int LEAST = Integer.MIN_VALUE, MOST = Integer.MAX_VALUE;
    private static final String GIVEN = "each 2; want 0; mood 4;" + Edges.bolts(5, "0 0 1") + "give 1; give none;";

    public static void main(String[] args) {
        part();
        image();
        imageKeeps();
        from();
        fromLeaves();
        status();
        statusCounts();
        count();
        digest();
        edges.end();
    }

    private static void part() {
        edges.promise(25);
        edges.is("0, the least what: above", 7, "oracle 3 1", x -> x.part(0));
        edges.is("1, the greatest what: below", 8, "oracle 3 1", x -> x.part(1));
        edges.is("above is 0 at first", 0, "", x -> x.part(0));
        edges.is("below is 1 at first", 1, "", x -> x.part(1));
        edges.bad("what of -1", x -> x.part(-1));
        edges.bad("what of 2", x -> x.part(2));
        edges.bad("the least int of what", x -> x.part(LEAST));
        edges.bad("the greatest int of what", x -> x.part(MOST));
        edges.is("a later FRACTION takes its place, above", 1, "oracle 3 1; oracle 2 2", x -> x.part(0));
        edges.is("a later FRACTION takes its place, below", 4, "oracle 3 1; oracle 2 2", x -> x.part(1));
        edges.is("lowest terms, above", 1, "oracle 3 2", x -> x.part(0));
        edges.is("lowest terms, below", 2, "oracle 3 2", x -> x.part(1));
        edges.asks("part(0)", x -> x.part(0));
        edges.asks("part(1)", x -> x.part(1));
    }

    private static void image() {
        edges.promise(26);
        edges.is("IMAGE 0, the least", 1, GIVEN, x -> x.image(0));
        edges.is("IMAGE 1, the greatest", 1, GIVEN, x -> x.image(1));
        edges.is("of a new object", 1, "", x -> x.image(0));
        edges.is("of one that was kept, once more", 1, "image 0", x -> x.image(0));
        edges.bad("IMAGE -1", x -> x.image(-1));
        edges.bad("IMAGE 2", x -> x.image(2));
        edges.bad("the least int of an IMAGE", x -> x.image(LEAST));
        edges.bad("the greatest int of an IMAGE", x -> x.image(MOST));
        edges.bad("IMAGE 2 of a new object", "", x -> x.image(2));
        edges.test("by one that was refused none is kept", due -> {
            MothsShare x = Edges.made(GIVEN);
            x.image(2);
            x.image(-1);
            due.is("from(0)", x.from(0), -3);
            due.is("from(1)", x.from(1), -3);
        });
        edges.test("a newer one takes the place of the older one", due -> {
            MothsShare x = Edges.made("want 1; image 0; want 2; image 0; want 3; from 0");
            due.is("WANT", x.put(1, 9), 2);
        });
        edges.test("the other one stays", due -> {
            MothsShare x = Edges.made("want 1; image 0; want 2; image 1; want 3; from 0");
            due.is("WANT", x.put(1, 9), 1);
        });
        edges.test("that one is kept changes nothing else", due -> {
            MothsShare x = Edges.made(GIVEN + "image 0; image 1");
            x.image(0);
            x.image(1);
            Edges.alike(due, x, Edges.made(GIVEN + "image 0; image 1"));
        });
    }

    private static void keeps(String name, String told, String changed) {
        edges.test("it keeps " + name, due -> {
            MothsShare x = Edges.made(told + "; image 0; image 1;" + changed);
            due.is("from(0)", x.from(0), 1);
            Edges.alike(due, x, Edges.made(told + "; image 0; image 1"));
        });
    }

    private static void imageKeeps() {
        keeps("that there are no BOLTS", "", "bolt 1 1 1");
        keeps("BOLTS", "bolt 1 2 33", "bolt 1 1 1");
        keeps("twelve BOLTS", Edges.bolts(12, "1 2 33"), "holes 11 3");
        keeps("that there are no MOTHS", "", "moth 1");
        keeps("MOTHS", "moth 4; moth 5; moth 3", "moth 1");
        keeps("TASTES", "taste 0 1; taste 3 9", "taste 0 2; taste 3 8");
        keeps("EACH", "each 2", "each 6");
        keeps("WANT", "want 99", "want 0");
        keeps("MOOD", "mood 9", "mood 1");
        keeps("HOLES", "bolt 1 1 1; bolt 2 2 2; holes 0 9", "holes 0 8; holes 1 7");
        keeps("gifts", GIVEN, "give 4; undo; undo");
        keeps("gifts, though others were given since", GIVEN, "undo; undo; give 0; give 3");
        keeps("that nothing is given", "bolt 1 1 1", "give 0");
        keeps("that it is BROKEN", "mood 1; moth 0; bolt 1 1 1; bolt 1 1 1; give 0", "mood 9");
    }

    private static void from() {
        edges.promise(27);
        edges.is("IMAGE 0, the least", 1, "image 0", x -> x.from(0));
        edges.is("IMAGE 1, the greatest", 1, "image 1", x -> x.from(1));
        edges.bad("IMAGE -1", x -> x.from(-1));
        edges.bad("IMAGE 2", x -> x.from(2));
        edges.bad("the least int of an IMAGE", x -> x.from(LEAST));
        edges.bad("the greatest int of an IMAGE", x -> x.from(MOST));
        edges.bad("none was kept, IMAGE 2", GIVEN, x -> x.from(2));
        edges.bad("none was kept, IMAGE -1", GIVEN, x -> x.from(-1));
        edges.no("none was kept, IMAGE 0", GIVEN, x -> x.from(0));
        edges.no("none was kept, IMAGE 1", GIVEN, x -> x.from(1));
        edges.no("IMAGE 1 where 0 alone was kept", GIVEN + "image 0", x -> x.from(1));
        edges.no("IMAGE 0 where 1 alone was kept", GIVEN + "image 1", x -> x.from(0));
        edges.is("an IMAGE may be gone on from again", 1, "image 0; from 0", x -> x.from(0));
        edges.is("what is told behind it leaves the IMAGE", 7, "want 7; image 0; from 0; want 8; from 0", x -> x.put(1, 9));
        edges.is("the gifts of an IMAGE can be undone", 5, GIVEN + "image 0; mood 9; from 0; undo", x -> x.now(0));
        edges.no("all of the gifts of an IMAGE, and no more", GIVEN + "image 0; mood 9; from 0; undo; undo", x -> x.undo());
        edges.no("what was given behind the IMAGE can not be undone", "bolt 1 1 1; image 0; give 0; from 0", x -> x.undo());
        edges.is("the next GROUP is the IMAGE's", 4, GIVEN + "image 0; mood 9; from 0", x -> x.give(4));
    }

    private static void fromLeaves() {
        edges.test("it leaves THE TEXT", due -> {
            MothsShare x = Edges.made("image 0");
            Edges.typed(x, "want 7;");
            x.from(0);
            due.is("count(3)", x.count(3), 7);
            due.is("read()", x.read(), 1);
            due.is("WANT", x.put(1, 9), 7);
        });
        edges.test("a TEXT that is empty stays so", due -> {
            MothsShare x = Edges.typed("want 7;");
            x.image(0);
            x.clear();
            x.from(0);
            due.is("count(3)", x.count(3), 0);
        });
        edges.is("it leaves THE FRACTION, above", 7, "image 0; oracle 3 1; from 0", x -> x.part(0));
        edges.is("it leaves THE FRACTION, below", 8, "image 0; oracle 3 1; from 0", x -> x.part(1));
        edges.test("it leaves STATUS", due -> {
            MothsShare x = Edges.made(Edges.bolts(12, "1 1 1") + "image 0");
            x.bolt(1, 1, 1);
            x.undo();
            x.moth(9);
            x.moth(8);
            x.from(0);
            due.is("status(0)", x.status(0), 2);
            due.is("status(1)", x.status(1), 1);
            due.is("status(2)", x.status(2), 1);
        });
        edges.is("it leaves the other IMAGE", 8, "want 7; image 0; want 8; image 1; from 0; from 1", x -> x.put(1, 9));
        edges.test("behind one of twelve BOLTS a bolt is FULL again", due -> {
            MothsShare x = Edges.made(Edges.bolts(12, "1 1 1") + "image 0");
            Edges.typed(x, "bolt 1 1 1;");
            x.read();
            due.is("bolt 2", x.bolt(1, 1, 1), 1);
            x.from(0);
            due.is("bolt 13", x.bolt(1, 1, 1), -4);
        });
    }

    private static void status() {
        edges.promise(28);
        edges.is("0, the least what", 0, "", x -> x.status(0));
        edges.is("2, the greatest what", 0, "", x -> x.status(2));
        edges.refused("a what of -1 answers -1", 0, -1, Edges::rich, x -> x.status(-1));
        edges.refused("a what of 3 answers -1", 0, -1, Edges::rich, x -> x.status(3));
        edges.refused("the least int of what answers -1", 0, -1, Edges::rich, x -> x.status(LEAST));
        edges.refused("the greatest int of what answers -1", 0, -1, Edges::rich, x -> x.status(MOST));
        edges.asks("status(0)", x -> x.status(0));
        edges.asks("status(1)", x -> x.status(1));
        edges.asks("status(2)", x -> x.status(2));
    }

    /** What STATUS holds behind some calls of a new object: BAD, NO, FULL. */
    private static void counts(String name, ToLongFunction<MothsShare> calls, int bad, int no, int full) {
        edges.test(name, due -> {
            MothsShare x = new MothsShare();
            calls.applyAsLong(x);
            due.is("status(0)", x.status(0), bad);
            due.is("status(1)", x.status(1), no);
            due.is("status(2)", x.status(2), full);
        });
    }

    private static int read(MothsShare x, String text) {
        x.clear();
        return Edges.typed(x, text).read();
    }

    private static void statusCounts() {
        counts("each refusal is one more", x -> x.undo() + x.undo() + x.undo() + x.moth(9) + x.moth(9), 2, 3, 0);
        counts("-10 of cheapest counts as BAD", x -> x.cheapest(0), 1, 0, 0);
        counts("-10 of eaten counts as BAD", x -> x.eaten(0), 1, 0, 0);
        counts("-10 of holes counts as BAD", x -> x.holes(0, 0), 1, 0, 0);
        counts("-20 of eaten counts as NO", x -> x.eaten(-1), 0, 1, 0);
        counts("of two reasons the first alone counts: BAD ahead of NO", x -> x.from(2), 1, 0, 0);
        counts("a FAULT of -10 counts nowhere", x -> read(x, "!"), 0, 0, 0);
        counts("a FAULT of -20 counts nowhere", x -> read(x, "want 3;   ;"), 0, 0, 0);
        counts("an ITEM that is BAD counts nowhere", x -> read(x, "moth 6;"), 0, 0, 0);
        counts("an ITEM that is FULL counts nowhere", x -> read(x, "moth1;moth1;moth1;moth1;moth1;"), 0, 0, 0);
        counts("NONE counts nowhere", x -> x.bolt(0, 0, 0) + x.moth(0) + x.cedar(0) + x.tailor(9, 9) + x.holes(0, 5)
            + x.put(2, 1) + x.put(1, 99) + x.cheapest(-1) + x.number(), 0, 0, 0);
        counts("of two reasons the first alone counts: BAD ahead of FULL", x -> {
            for (int b = 0; b < 12; b++) {
                x.bolt(0, 0, 0);
            }
            return x.bolt(4, 0, 0);
        }, 1, 0, 0);
        counts("FULL by bolt, moth, type is counted together", x -> {
            for (int i = 0; i < 26; i++) {
                x.type(32, 8);
                x.bolt(0, 0, 0);
            }
            return x.moth(0) + x.moth(0) + x.moth(0) + x.moth(0) + x.moth(0);
        }, 0, 0, 16);
    }

    private static void count() {
        edges.promise(29);
        edges.is("no BOLTS", 0, "moth 0", x -> x.count(0));
        edges.is("twelve BOLTS", 12, Edges.bolts(12, "0 0 0"), x -> x.count(0));
        edges.is("no MOTHS", 0, "bolt 0 0 0", x -> x.count(1));
        edges.is("four MOTHS", 4, "moth 0; moth 0; moth 0; moth 0", x -> x.count(1));
        edges.is("no BOLTS, no GROUPS", 0, "moth 0", x -> x.count(2));
        edges.is("one BOLT is a GROUP", 1, "bolt 0 0 0", x -> x.count(2));
        edges.is("EACH BOLTS are one GROUP", 1, Edges.bolts(3, "0 0 0"), x -> x.count(2));
        edges.is("EACH BOLTS and 1 are two GROUPS", 2, Edges.bolts(4, "0 0 0"), x -> x.count(2));
        int[] groups = {6, 4, 3, 3, 2};
        for (int n = 2; n <= 6; n++) {
            edges.is("twelve BOLTS by an EACH of " + n, groups[n - 2], "each " + n + ";" + Edges.bolts(12, "0 0 0"),
                x -> x.count(2));
        }
        edges.is("an empty TEXT", 0, "bolt 0 0 0", x -> x.count(3));
        edges.is("a full TEXT", 200, "", x -> Edges.typed(x, " ".repeat(200)).count(3));
        edges.bad("what of -1", x -> x.count(-1));
        edges.bad("what of 4", x -> x.count(4));
        edges.bad("the least int of what", x -> x.count(LEAST));
        edges.bad("the greatest int of what", x -> x.count(MOST));
        for (int w = 0; w < 4; w++) {
            final int what = w;
            edges.asks("count(" + w + ")", x -> x.count(what));
        }
    }

    private static void digests(String name, String told, long... values) {
        long chain = 691;
        for (long v : values) {
            chain = 31 * chain + v;
        }
        edges.is(name, chain, told, x -> x.digest());
    }

    private static void digest() {
        edges.promise(30);
        digests("nothing told yet", "", 0, 0, 0, 0, 5, 5, 5, 5, 3, 10, 5, 5, 0, 0, 1);
        digests("a BOLT of which no HOLES are told: NONE", "bolt 1 2 33",
            1, 0, 1, 0, 1, 2, 33, -1, 5, 5, 5, 5, 3, 10, 5, 5, 0, 0, 1);
        digests("HOLES of 0", "bolt 1 2 33; holes 0 0", 1, 0, 1, 0, 1, 2, 33, 0, 5, 5, 5, 5, 3, 10, 5, 5, 0, 0, 1);
        digests("BOLT by BOLT, not row by row", "bolt 1 2 33; bolt 3 0 9; holes 1 99",
            2, 0, 1, 0, 1, 2, 33, -1, 3, 0, 9, 99, 5, 5, 5, 5, 3, 10, 5, 5, 0, 0, 1);
        digests("BREEDS of MOTHS", "moth 5; moth 0", 0, 2, 0, 0, 5, 0, 5, 5, 5, 5, 3, 10, 5, 5, 0, 0, 1);
        digests("TASTES, EACH, WANT, MOOD at their edges", "taste 0 0; taste 1 9; each 6; want 99; mood 1",
            0, 0, 0, 0, 0, 9, 5, 5, 6, 99, 1, 1, 0, 0, 1);
        digests("a GROUP that had none: 12", "bolt 1 2 33; give none",
            1, 0, 1, 0, 1, 2, 33, -1, 5, 5, 5, 5, 3, 10, 5, 3, 1, 12, 0, 1);
        digests("a GROUP that had a BOLT, MOOD as told and MOOD now", "bolt 1 2 33; want 0; give 0",
            1, 0, 1, 0, 1, 2, 33, -1, 5, 5, 5, 5, 3, 0, 5, 6, 1, 0, 0, 1);
        digests("where it is BROKEN MOOD now is 0", "bolt 1 2 33; mood 1; give none",
            1, 0, 1, 0, 1, 2, 33, -1, 5, 5, 5, 5, 3, 10, 1, 0, 1, 12, 0, 1);
        digests("a gift that is undone is none", "bolt 1 2 33; give 0; undo",
            1, 0, 1, 0, 1, 2, 33, -1, 5, 5, 5, 5, 3, 10, 5, 5, 0, 0, 1);
        digests("THE FRACTION", "oracle 3 1", 0, 0, 0, 0, 5, 5, 5, 5, 3, 10, 5, 5, 0, 7, 8);
        edges.test("the bytes of THE TEXT", due -> {
            long chain = 691;
            for (int v : new int[] {0, 0, 0, 200, 5, 5, 5, 5, 3, 10, 5, 5, 0, 0, 1}) {
                chain = 31 * chain + v;
            }
            due.is("digest()", Edges.typed(" ".repeat(200)).digest(), chain);
        });
        edges.test("IMAGES and STATUS are not in it", due -> {
            MothsShare x = Edges.made("image 0; image 1");
            x.undo();
            due.is("digest()", x.digest(), new MothsShare().digest());
        });
        edges.test("all places full", due -> due.is("digest()", allFull().digest(), digestOfAllFull()));
        edges.asks("digest()", x -> x.digest());
    }

    private static MothsShare allFull() {
        return Edges.typed(Edges.made("moth 5; moth 4; moth 3; moth 2; want 0; each 2; mood 9;"
            + Edges.bolts(12, "3 3 99") + "give 0; give 3; give 4; give 7; give 8; give 11; oracle 30 30"), " ".repeat(200));
    }

    private static long digestOfAllFull() {
        long h = 691;
        for (int v : new int[] {12, 4, 6, 200}) {
            h = 31 * h + v;
        }
        for (int b = 0; b < 12; b++) {
            h = 31 * (31 * (31 * (31 * h + 3) + 3) + 99) - 1;
        }
        for (int v : new int[] {5, 4, 3, 2, 5, 5, 5, 5, 2, 0, 9, 9, 6, 0, 3, 4, 7, 8, 11, 1, 1073741824}) {
            h = 31 * h + v;
        }
        return h;
    }
}
