import java.util.function.ToLongFunction;

/** Promises 1 to 8: each boundary that the document names has a test of its own. */
public final class BargainEdgesTest {
    private static final Edges edges = new Edges(1, 8);
    private static final int LEAST = Integer.MIN_VALUE, MOST = Integer.MAX_VALUE;

    public static void main(String[] args) {
        newObject();
        newObjectRefuses();
        bolt();
        boltFull();
        boltLeavesNothingGiven();
        moth();
        mothFull();
        taste();
        put();
        putAndGifts();
        appetite();
        breeds();
        type();
        typeFull();
        clear();
        edges.end();
    }

    private static void newObject() {
        edges.promise(1);
        edges.is("a new object has no BOLTS", 0, "", x -> x.count(0));
        edges.is("a new object has no MOTHS", 0, "", x -> x.count(1));
        edges.is("a new object has no GROUPS", 0, "", x -> x.count(2));
        edges.is("a new object's TEXT is empty", 0, "", x -> x.count(3));
        for (int c = 0; c < 4; c++) {
            final int colour = c;
            edges.is("the TASTE of COLOUR " + c + " is 5 at first", 5, "", x -> x.taste(colour, 0));
        }
        edges.is("EACH is 3 at first", 3, "", x -> x.put(0, 2));
        edges.is("WANT is 10 at first", 10, "", x -> x.put(1, 0));
        edges.is("MOOD is 5 at first", 5, "", x -> x.put(2, 1));
        edges.is("MOOD now is 5 at first", 5, "", x -> x.now(0));
        edges.is("no GROUP had a gift at first", 0, "", x -> x.now(1));
        edges.is("no BOLT is given up at first", 0, "", x -> x.now(2));
        edges.is("nothing given up is worth 0", 0, "", x -> x.now(3));
        edges.is("THE FRACTION is 0 above at first", 0, "", x -> x.part(0));
        edges.is("THE FRACTION is 1 below at first", 1, "", x -> x.part(1));
        for (int s = 0; s < 3; s++) {
            final int what = s;
            edges.is("STATUS " + s + " is 0 at first", 0, "", x -> x.status(what));
        }
        edges.is("the digest of a new object", digestOfNew(), "", x -> x.digest());
        edges.test("the 512th call, the last, is answered as the first", due -> {
            MothsShare x = new MothsShare();
            for (int call = 1; call <= 510; call++) {
                x.moth(6);
            }
            due.is("call 511, bolt(0, 0, 0)", x.bolt(0, 0, 0), 0);
            due.is("call 512, status(0)", x.status(0), 510);
        });
        edges.test("what one object is told another is not", due -> {
            MothsShare first = new MothsShare();
            Edges.tell(first, "bolt 0 0 0; moth 0; taste 0 0; each 2; want 0; mood 1; give 0; image 0; oracle 3 1");
            Edges.typed(first, "each 2;");
            Edges.alike(due, new MothsShare(), Edges.made(""));
            due.is("count(0) of a new one", new MothsShare().count(0), 0);
            due.is("digest() of a new one", new MothsShare().digest(), digestOfNew());
        });
    }

    private static long digestOfNew() {
        long h = 691;
        for (int v : new int[] {0, 0, 0, 0, 5, 5, 5, 5, 3, 10, 5, 5, 0, 0, 1}) {
            h = 31 * h + v;
        }
        return h;
    }

    private static void newObjectRefuses() {
        edges.no("nothing can be undone at first", "", x -> x.undo());
        edges.no("IMAGE 0 is not kept at first", "", x -> x.from(0));
        edges.no("IMAGE 1 is not kept at first", "", x -> x.from(1));
        edges.noTwenty("it is not BROKEN at first", "", x -> x.eaten(-1));
        edges.bad("BOLT 0 of a new object", "", x -> x.pleased(0));
        edges.badTen("MOTH 0 of a new object", "", x -> x.eaten(0));
        edges.badTen("GROUP 0 of a new object", "", x -> x.cheapest(0));
    }

    private static void bolt() {
        edges.promise(2);
        edges.is("the first BOLT is 0", 0, "", x -> x.bolt(1, 1, 1));
        edges.is("the second BOLT is 1", 1, "bolt 1 1 1", x -> x.bolt(1, 1, 1));
        edges.is("COLOUR 0, the least", 0, "", x -> x.bolt(0, 1, 1));
        edges.is("COLOUR 3, the greatest", 0, "", x -> x.bolt(3, 1, 1));
        edges.is("SMELL 0, the least", 0, "", x -> x.bolt(1, 0, 1));
        edges.is("SMELL 3, the greatest", 0, "", x -> x.bolt(1, 3, 1));
        edges.is("WORTH 0, the least", 0, "", x -> x.bolt(1, 1, 0));
        edges.is("WORTH 99, the greatest", 0, "", x -> x.bolt(1, 1, 99));
        edges.bad("COLOUR -1", x -> x.bolt(-1, 0, 0));
        edges.bad("COLOUR 4", x -> x.bolt(4, 0, 0));
        edges.bad("SMELL -1", x -> x.bolt(0, -1, 0));
        edges.bad("SMELL 4", x -> x.bolt(0, 4, 0));
        edges.bad("WORTH -1", x -> x.bolt(0, 0, -1));
        edges.bad("WORTH 100", x -> x.bolt(0, 0, 100));
        edges.bad("the least int of a COLOUR", x -> x.bolt(LEAST, 0, 0));
        edges.bad("the greatest int of a COLOUR", x -> x.bolt(MOST, 0, 0));
        edges.bad("the least int of a SMELL", x -> x.bolt(0, LEAST, 0));
        edges.bad("the greatest int of a SMELL", x -> x.bolt(0, MOST, 0));
        edges.bad("the least int of a WORTH", x -> x.bolt(0, 0, LEAST));
        edges.bad("the greatest int of a WORTH", x -> x.bolt(0, 0, MOST));
        edges.is("of a new BOLT no HOLES are told", -1, "bolt 0 0 0", x -> x.holes(0, 3));
        edges.is("of a BOLT told anew no HOLES are told", -1, "image 0; bolt 0 0 0; holes 0 7; from 0; bolt 0 0 0",
            x -> x.holes(0, 3));
        edges.is("the HOLES of the others stay", 7, "bolt 0 0 0; holes 0 7; bolt 0 0 0", x -> x.holes(0, 3));
    }

    private static void boltFull() {
        String eleven = Edges.bolts(11, "0 0 1");
        String twelve = eleven + "bolt 1 1 2;";
        edges.is("the twelfth BOLT is 11", 11, eleven, x -> x.bolt(1, 1, 2));
        edges.is("twelve BOLTS are counted", 12, twelve, x -> x.count(0));
        edges.full("the thirteenth BOLT", twelve + "moth 0; want 0; give 1;", x -> x.bolt(0, 0, 0));
        edges.test("the fourteenth BOLT, behind one that was FULL, is FULL", due -> {
            MothsShare x = Edges.made(twelve);
            x.bolt(0, 0, 0);
            due.is("bolt 14", x.bolt(0, 0, 0), -4);
            due.is("status(2)", x.status(2), 2);
        });
        edges.test("behind a BOLT that was FULL a MOTH is told", due -> {
            MothsShare x = Edges.made(twelve);
            x.bolt(0, 0, 0);
            due.is("moth(0)", x.moth(0), 0);
            due.is("count(0)", x.count(0), 12);
        });
        edges.test("behind a BOLT that was FULL there is place again by an IMAGE", due -> {
            MothsShare x = Edges.made(eleven + "image 0; bolt 1 1 2;");
            x.bolt(0, 0, 0);
            x.from(0);
            due.is("bolt(0, 0, 0)", x.bolt(0, 0, 0), 11);
        });
        edges.bad("where there is no place a COLOUR of 4", twelve, x -> x.bolt(4, 0, 0));
        edges.bad("where there is no place a SMELL of 4", twelve, x -> x.bolt(0, 4, 0));
        edges.bad("where there is no place a WORTH of 100", twelve, x -> x.bolt(0, 0, 100));
    }

    private static void boltLeavesNothingGiven() {
        String given = "each 2; want 0; bolt 0 0 4; bolt 0 0 8; bolt 0 0 16; give 1; give 2;";
        edges.is("a BOLT leaves no GROUP with a gift", 0, given + "bolt 0 0 0", x -> x.now(1));
        edges.is("a BOLT leaves MOOD as it was told", 5, given + "bolt 0 0 0", x -> x.now(0));
        edges.is("a BOLT leaves none given up", 0, given + "bolt 0 0 0", x -> x.now(2));
        edges.no("a BOLT leaves nothing to undo", given + "bolt 0 0 0", x -> x.undo());
        edges.is("behind a BOLT the first GROUP is next", 6, given + "bolt 0 0 0", x -> x.give(0));
        edges.is("behind a BOLT it is BROKEN no more", 4, "mood 1; bolt 0 0 0; give none; mood 5; bolt 0 0 0",
            x -> x.give(1));
    }

    private static void moth() {
        edges.promise(3);
        edges.is("the first MOTH is 0", 0, "", x -> x.moth(2));
        edges.is("the second MOTH is 1", 1, "moth 2", x -> x.moth(2));
        edges.is("BREED 0, the least", 0, "", x -> x.moth(0));
        edges.is("BREED 5, the greatest", 0, "", x -> x.moth(5));
        edges.bad("BREED -1", x -> x.moth(-1));
        edges.bad("BREED 6", x -> x.moth(6));
        edges.bad("the least int of a BREED", x -> x.moth(LEAST));
        edges.bad("the greatest int of a BREED", x -> x.moth(MOST));
        String given = "each 2; want 0; bolt 0 0 4; bolt 0 0 8; bolt 0 0 16; give 1; give 2;";
        edges.is("a MOTH leaves no GROUP with a gift", 0, given + "moth 0", x -> x.now(1));
        edges.is("a MOTH leaves MOOD as it was told", 5, given + "moth 0", x -> x.now(0));
        edges.no("a MOTH leaves nothing to undo", given + "moth 0", x -> x.undo());
        edges.noTwenty("behind a MOTH it is BROKEN no more", "mood 1; bolt 0 0 0; give none; moth 0",
            x -> x.eaten(-1));
    }

    private static void mothFull() {
        String four = "bolt 0 0 1; moth 0; moth 5; moth 1; moth 2;";
        edges.is("the fourth MOTH is 3", 3, "moth 0; moth 5; moth 1", x -> x.moth(2));
        edges.is("four MOTHS are counted", 4, four, x -> x.count(1));
        edges.full("the fifth MOTH", four + "give 0", x -> x.moth(0));
        edges.test("the sixth MOTH, behind one that was FULL, is FULL", due -> {
            MothsShare x = Edges.made(four);
            x.moth(0);
            due.is("moth 6", x.moth(0), -4);
            due.is("status(2)", x.status(2), 2);
        });
        edges.test("behind a MOTH that was FULL a BOLT is told", due -> {
            MothsShare x = Edges.made(four);
            x.moth(0);
            due.is("bolt(0, 0, 0)", x.bolt(0, 0, 0), 1);
            due.is("count(1)", x.count(1), 4);
        });
        edges.bad("where there is no place a BREED of 6", four, x -> x.moth(6));
        edges.bad("where there is no place a BREED of -1", four, x -> x.moth(-1));
    }

    private static void taste() {
        edges.promise(4);
        edges.is("COLOUR 0, the least", 5, "", x -> x.taste(0, 1));
        edges.is("COLOUR 3, the greatest", 5, "", x -> x.taste(3, 1));
        edges.is("a TASTE of 0, the least", 5, "", x -> x.taste(2, 0));
        edges.is("a TASTE of 9, the greatest", 5, "", x -> x.taste(2, 9));
        edges.is("what it was: 0", 0, "taste 2 0", x -> x.taste(2, 5));
        edges.is("what it was: 9", 9, "taste 2 9", x -> x.taste(2, 5));
        edges.is("the TASTE of another COLOUR stays", 5, "taste 2 9", x -> x.taste(1, 5));
        edges.bad("COLOUR -1", x -> x.taste(-1, 5));
        edges.bad("COLOUR 4", x -> x.taste(4, 5));
        edges.bad("a TASTE of -1", x -> x.taste(0, -1));
        edges.bad("a TASTE of 10", x -> x.taste(0, 10));
        edges.bad("the least int of a COLOUR", x -> x.taste(LEAST, 5));
        edges.bad("the greatest int of a COLOUR", x -> x.taste(MOST, 5));
        edges.bad("the least int of a TASTE", x -> x.taste(0, LEAST));
        edges.bad("the greatest int of a TASTE", x -> x.taste(0, MOST));
        String given = "bolt 0 0 1; moth 0; want 5; give 0;";
        edges.is("a TASTE leaves what is given", 1, given + "taste 0 0", x -> x.now(1));
        edges.is("a TASTE leaves MOOD as it is", 6, given + "taste 0 0", x -> x.now(0));
        edges.is("behind a TASTE a gift can be undone", 1, given + "taste 0 0", x -> x.undo());
        edges.is("an undo leaves a TASTE", 0, given + "taste 0 0; undo", x -> x.taste(0, 5));
        edges.is("a TASTE counts from then on", 4, given + "taste 0 0; undo", x -> x.give(0));
    }

    private static void put() {
        edges.promise(5);
        String[] names = {"EACH", "WANT", "MOOD"};
        int[] least = {2, 0, 1};
        int[] most = {6, 99, 9};
        for (int w = 0; w < 3; w++) {
            final int what = w;
            final int low = least[w];
            final int high = most[w];
            final String told = "bolt 0 0 1; " + names[w].toLowerCase() + " ";
            edges.is(names[w] + " of " + low + ", the least, is taken", low, told + low, x -> x.put(what, 5));
            edges.is(names[w] + " of " + high + ", the greatest, is taken", high, told + high, x -> x.put(what, 5));
            edges.bad(names[w] + " of " + (low - 1), x -> x.put(what, low - 1));
            edges.bad(names[w] + " of " + (high + 1), x -> x.put(what, high + 1));
            edges.bad("the least int of " + names[w], x -> x.put(what, LEAST));
            edges.bad("the greatest int of " + names[w], x -> x.put(what, MOST));
        }
        edges.bad("what of -1", x -> x.put(-1, 5));
        edges.bad("what of 3", x -> x.put(3, 5));
        edges.bad("the least int of what", x -> x.put(LEAST, 5));
        edges.bad("the greatest int of what", x -> x.put(MOST, 5));
    }

    private static void putAndGifts() {
        String given = "each 2; bolt 0 0 4; bolt 0 0 8; bolt 0 0 16; give 1; give 2;";
        edges.is("EACH leaves no GROUP with a gift", 0, given + "each 3", x -> x.now(1));
        edges.is("EACH told as it was leaves no GROUP with a gift", 0, given + "each 2", x -> x.now(1));
        edges.is("EACH leaves MOOD as it was told", 5, given + "each 3", x -> x.now(0));
        edges.no("EACH leaves nothing to undo", given + "each 2", x -> x.undo());
        edges.is("MOOD leaves no GROUP with a gift", 0, given + "mood 4", x -> x.now(1));
        edges.is("MOOD told as it was leaves no GROUP with a gift", 0, given + "mood 5", x -> x.now(1));
        edges.is("MOOD now is the MOOD told", 9, given + "mood 9", x -> x.now(0));
        edges.no("MOOD leaves nothing to undo", given + "mood 5", x -> x.undo());
        edges.noTwenty("behind MOOD it is BROKEN no more", "mood 1; bolt 0 0 0; give none; mood 1", x -> x.eaten(-1));
        edges.is("the MOOD that was told stays behind gifts", 5, given, x -> x.put(2, 5));
        edges.is("WANT leaves what is given", 2, given + "want 0", x -> x.now(1));
        edges.is("WANT leaves MOOD as it is", 3, given + "want 0", x -> x.now(0));
        edges.is("behind WANT a gift can be undone", 1, given + "want 0", x -> x.undo());
        edges.is("an undo leaves WANT", 0, given + "want 0; undo", x -> x.put(1, 5));
    }

    private static void appetite() {
        edges.promise(6);
        String one = "bolt 2 0 1; moth 0;";
        edges.is("MOTH 0 for BOLT 0", 5, one, x -> x.appetite(0, 0));
        edges.bad("no MOTH told, MOTH 0", "bolt 0 0 1", x -> x.appetite(0, 0));
        edges.bad("no BOLT told, BOLT 0", "moth 0", x -> x.appetite(0, 0));
        edges.bad("MOTH -1", one, x -> x.appetite(-1, 0));
        edges.bad("MOTH 1 of one", one, x -> x.appetite(1, 0));
        edges.bad("BOLT -1", one, x -> x.appetite(0, -1));
        edges.bad("BOLT 1 of one", one, x -> x.appetite(0, 1));
        edges.bad("the least int of a MOTH", x -> x.appetite(LEAST, 0));
        edges.bad("the greatest int of a MOTH", x -> x.appetite(MOST, 0));
        edges.bad("the least int of a BOLT", x -> x.appetite(0, LEAST));
        edges.bad("the greatest int of a BOLT", x -> x.appetite(0, MOST));
        String full = Edges.bolts(11, "0 0 1") + "bolt 1 0 1; moth 0; moth 0; moth 0; moth 2; taste 1 8;";
        edges.is("MOTH 3, the last, for BOLT 11, the last", 16, full, x -> x.appetite(3, 11));
        edges.bad("MOTH 4 of four", full, x -> x.appetite(4, 11));
        edges.bad("BOLT 12 of twelve", full, x -> x.appetite(3, 12));
        edges.is("of a BOLT that is given up", 5, one + "give 0", x -> x.appetite(0, 0));
    }

    /** One MOTH of a BREED for one BOLT, where the TASTE of its COLOUR is told. */
    private static void hunger(String name, int want, int breed, int taste, int colour, int smell) {
        String told = "taste " + colour + " " + taste + "; moth " + breed + "; bolt " + colour + " " + smell + " 0";
        edges.is(name, want, told, x -> x.appetite(0, 0));
    }

    private static void breeds() {
        hunger("COMMON: the least TASTE", 0, 0, 0, 1, 0);
        hunger("COMMON: the greatest TASTE", 9, 0, 9, 1, 0);
        hunger("COMMON minds no cedar", 9, 0, 9, 1, 3);
        hunger("SHY: nothing for cedar", 0, 1, 9, 1, 3);
        hunger("SHY: as COMMON for smoke, the SMELL ahead of cedar", 9, 1, 9, 1, 2);
        hunger("SHY: as COMMON for no SMELL", 9, 1, 9, 1, 0);
        hunger("GREEDY: twice 0", 0, 2, 0, 1, 0);
        hunger("GREEDY: twice 9", 18, 2, 9, 1, 0);
        hunger("GREEDY minds no cedar", 18, 2, 9, 1, 3);
        hunger("GREYLING: 5 more for grey", 23, 3, 9, 0, 0);
        hunger("GREYLING: 5 for grey, also where the TASTE is 0", 5, 3, 0, 0, 0);
        hunger("GREYLING: as GREEDY for COLOUR 1, the one behind grey", 18, 3, 9, 1, 0);
        hunger("GREYLING minds no cedar", 23, 3, 9, 0, 3);
        hunger("RIVAL: 3 more for sheep", 12, 4, 9, 1, 1);
        hunger("RIVAL: 3 for sheep, also where that is nothing", 3, 4, 0, 1, 1);
        hunger("RIVAL: as SHY for no SMELL", 9, 4, 9, 1, 0);
        hunger("RIVAL: as SHY for smoke", 9, 4, 9, 1, 2);
        hunger("RIVAL: nothing for cedar", 0, 4, 9, 1, 3);
        hunger("BLIND: 6 by 7 leaves 6", 6, 5, 3, 1, 0);
        hunger("BLIND: 8 by 7 leaves 1", 1, 5, 4, 1, 0);
        hunger("BLIND: 12 by 7 leaves 5", 5, 5, 6, 1, 0);
        hunger("BLIND: 14 by 7 leaves 0", 0, 5, 7, 1, 0);
        hunger("BLIND: 16 by 7 leaves 2", 2, 5, 8, 1, 0);
        hunger("BLIND: the greatest, 18 by 7, leaves 4", 4, 5, 9, 1, 0);
        hunger("BLIND sees no grey", 4, 5, 9, 0, 0);
        hunger("BLIND minds no cedar", 4, 5, 9, 1, 3);
        hunger("BLIND: nothing for nothing", 0, 5, 0, 0, 1);
    }

    private static void typed(String name, String text, ToLongFunction<MothsShare> calls) {
        edges.test(name, due -> {
            MothsShare x = new MothsShare();
            calls.applyAsLong(x);
            MothsShare want = Edges.typed(text);
            due.is("count(3)", x.count(3), want.count(3));
            due.is("read()", x.read(), want.read());
            due.is("digest()", x.digest(), want.digest());
        });
    }

    private static void type() {
        edges.promise(7);
        edges.is("n of 1, the least", 1, "", x -> x.type(32, 1));
        edges.is("n of 8, the greatest", 8, "", x -> x.type(32, 8));
        edges.bad("n of 0", x -> x.type(32, 0));
        edges.bad("n of 9", x -> x.type(32, 9));
        edges.bad("n of -1", x -> x.type(32, -1));
        edges.bad("the least int of n", x -> x.type(32, LEAST));
        edges.bad("the greatest int of n", x -> x.type(32, MOST));
        typed("the highest of eight bytes comes first", "each  2;", x -> x.type(0x656163682020323BL, 8));
        typed("the byte above the lowest seven stays away", "want 7;", x -> x.type(0x3B77616E7420373BL, 7));
        typed("the bytes above the lowest one stay away", "want 7;", x -> x.type(0x77616E742037L, 6) + x.type(0x373BL, 1));
        typed("what comes next comes behind", "want 7;", x -> x.type(0x77616E74L, 4) + x.type(0x20373BL, 3));
        edges.test("a byte of 255 is a byte", due -> {
            MothsShare x = new MothsShare();
            due.is("type(-1, 8)", x.type(-1L, 8), 8);
            due.is("read()", x.read(), -10);
        });
        edges.test("a byte of 0 is a byte", due -> {
            MothsShare x = new MothsShare();
            due.is("type(0, 2)", x.type(0L, 2), 2);
            due.is("count(3)", x.count(3), 2);
            due.is("read()", x.read(), -10);
        });
        edges.is("a BOLT, a MOTH leave THE TEXT", 4, "", x -> {
            x.type(32, 4);
            x.bolt(0, 0, 0);
            x.moth(0);
            return x.count(3);
        });
    }

    /** A text of so many bytes, a deed of one ITEM at its begin. */
    private static MothsShare deedOf(int bytes) {
        return Edges.typed("want 7;" + " ".repeat(bytes - 7));
    }

    private static void typeFull() {
        edges.test("200 bytes, the most, by one that fills them", due -> due.is("type", deedOf(199).type(32, 1), 200));
        edges.test("200 bytes, the most, by eight that fill them", due -> due.is("type", deedOf(192).type(0x2020202020202020L, 8), 200));
        edges.test("200 bytes are counted", due -> due.is("count(3)", deedOf(200).count(3), 200));
        edges.test("200 bytes are read", due -> due.is("read()", deedOf(200).read(), 1));
        edges.full("the 201st byte", () -> deedOf(200), x -> x.type(32, 1));
        edges.full("eight bytes behind 200", () -> deedOf(200), x -> x.type(32, 8));
        edges.full("eight bytes behind 193, of which seven had place,", () -> deedOf(193), x -> x.type(32, 8));
        edges.full("two bytes behind 199", () -> deedOf(199), x -> x.type(32, 2));
        edges.test("behind bytes that were FULL fewer have place", due -> {
            MothsShare x = deedOf(193);
            x.type(32, 8);
            due.is("type 7", x.type(0x20202020202020L, 7), 200);
            due.is("read()", x.read(), 1);
        });
        edges.test("behind bytes that were FULL and clear there is place", due -> {
            MothsShare x = deedOf(200);
            x.type(32, 1);
            x.clear();
            due.is("type 8", x.type(32, 8), 8);
        });
        edges.refused("where there is no place n of 9 is BAD", 0, -2, () -> deedOf(200), x -> x.type(32, 9));
        edges.refused("where there is no place n of 0 is BAD", 0, -2, () -> deedOf(200), x -> x.type(32, 0));
    }

    private static void clear() {
        edges.promise(8);
        edges.is("an empty TEXT had 0", 0, "", x -> x.clear());
        edges.test("a TEXT of one byte had 1", due -> due.is("clear()", Edges.typed(" ").clear(), 1));
        edges.test("a full TEXT had 200", due -> due.is("clear()", deedOf(200).clear(), 200));
        edges.test("a TEXT that is cleared is empty", due -> {
            MothsShare x = deedOf(200);
            x.clear();
            due.is("count(3)", x.count(3), 0);
            due.is("clear() again", x.clear(), 0);
            due.is("read()", x.read(), 0);
            due.is("WANT is not told", x.put(1, 10), 10);
        });
        edges.test("what is typed behind it comes first", due -> {
            MothsShare x = deedOf(20);
            x.clear();
            due.is("type", Edges.typed(x, "each 2;").count(3), 7);
            due.is("read()", x.read(), 1);
            due.is("EACH", x.put(0, 3), 2);
            due.is("WANT", x.put(1, 10), 10);
        });
        edges.test("it leaves all but THE TEXT", due -> {
            String told = "bolt 0 0 0; moth 0; taste 0 0; want 0; give 0; image 0; oracle 3 1";
            MothsShare x = Edges.typed(Edges.made(told), "each 2;");
            due.is("clear()", x.clear(), 7);
            Edges.alike(due, x, Edges.made(told));
        });
    }
}
