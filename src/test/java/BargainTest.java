/** Promises 1 to 8: a new object, bolts, moths, tastes, the bargain's numbers, appetites, the text. */
public final class BargainTest {
    private static final Due due = new Due();

    public static void main(String[] args) {
        newObject();
        bolt();
        boltLeavesNothingGiven();
        moth();
        taste();
        put();
        appetite();
        type();
        clear();
        due.end();
    }

    private static void newObject() {
        due.promise(1);
        MothsShare x = new MothsShare();
        for (int what = 0; what < 4; what++) {
            due.is("count(" + what + ")", x.count(what), 0);
        }
        for (int s = 0; s < 3; s++) {
            due.is("status(" + s + ")", x.status(s), 0);
        }
        due.is("now(0)", x.now(0), 5);
        due.is("now(1)", x.now(1), 0);
        due.is("now(2)", x.now(2), 0);
        due.is("now(3)", x.now(3), 0);
        due.is("part(0)", x.part(0), 0);
        due.is("part(1)", x.part(1), 1);
        due.is("byWhom(0)", x.byWhom(0), 1);
        due.is("cedar(0)", x.cedar(0), 0);
        for (int c = 0; c < 4; c++) {
            due.is("taste(" + c + ", 0)", x.taste(c, 0), 5);
        }
        due.is("put(0, 2)", x.put(0, 2), 3);
        due.is("put(1, 0)", x.put(1, 0), 10);
        due.is("put(2, 1)", x.put(2, 1), 5);
        due.no(x, "from(0)", () -> x.from(0));
        due.no(x, "from(1)", () -> x.from(1));
        due.no(x, "undo()", () -> x.undo());
        MothsShare other = new MothsShare();
        due.is("taste of another object", other.taste(0, 1), 5);
        due.is("NONE", MothsShare.NONE, -1);
        due.is("BAD", MothsShare.BAD, -2);
        due.is("NO", MothsShare.NO, -3);
        due.is("FULL", MothsShare.FULL, -4);
    }

    private static void bolt() {
        due.promise(2);
        MothsShare x = new MothsShare();
        due.is("bolt(0, 0, 0)", x.bolt(0, 0, 0), 0);
        due.is("bolt(3, 3, 99)", x.bolt(3, 3, 99), 1);
        int[][] bad = {{-1, 0, 0}, {4, 0, 0}, {0, -1, 0}, {0, 4, 0}, {0, 0, -1}, {0, 0, 100},
            {Integer.MIN_VALUE, 0, 0}, {0, Integer.MAX_VALUE, 0}, {0, 0, Integer.MAX_VALUE}};
        for (int[] b : bad) {
            due.bad(x, "bolt" + java.util.Arrays.toString(b), () -> x.bolt(b[0], b[1], b[2]));
        }
        for (int i = 2; i < 12; i++) {
            due.is("bolt number " + i, x.bolt(i % 4, i / 4, i), i);
        }
        due.is("count(0)", x.count(0), 12);
        due.full(x, "bolt 13", () -> x.bolt(0, 0, 0));
        due.bad(x, "bad bolt 13", () -> x.bolt(0, 0, 100));
        due.is("holes of a new bolt", x.holes(11, 4), -1);
    }

    private static void boltLeavesNothingGiven() {
        MothsShare x = Due.told("bolt 0 0 1; bolt 0 0 2; want 0;");
        due.is("give(0)", x.give(0), 6);
        due.bad(x, "bolt(4, 0, 0)", () -> x.bolt(4, 0, 0));
        due.is("now(1) behind a bolt that was refused", x.now(1), 1);
        x.bolt(0, 0, 0);
        due.is("now(0) behind a bolt", x.now(0), 5);
        due.is("now(1) behind a bolt", x.now(1), 0);
        due.is("now(2) behind a bolt", x.now(2), 0);
        due.no(x, "undo() behind a bolt", () -> x.undo());
    }

    private static void moth() {
        due.promise(3);
        MothsShare x = Due.told("bolt 0 0 1;");
        due.bad(x, "moth(-1)", () -> x.moth(-1));
        due.bad(x, "moth(6)", () -> x.moth(6));
        due.is("moth(5)", x.moth(5), 0);
        due.is("moth(0)", x.moth(0), 1);
        x.give(0);
        due.is("now(1)", x.now(1), 1);
        due.is("moth(4)", x.moth(4), 2);
        due.is("now(1) behind a moth", x.now(1), 0);
        due.no(x, "undo() behind a moth", () -> x.undo());
        due.is("moth(3)", x.moth(3), 3);
        x.give(-1);
        due.full(x, "moth 5", () -> x.moth(1));
        due.bad(x, "bad moth 5", () -> x.moth(7));
        due.is("now(1) behind a moth that was refused", x.now(1), 1);
        due.is("count(1)", x.count(1), 4);
    }

    private static void taste() {
        due.promise(4);
        MothsShare x = Due.told("bolt 3 0 1; moth 0;");
        due.is("taste(3, 9)", x.taste(3, 9), 5);
        due.is("appetite", x.appetite(0, 0), 9);
        due.is("taste(3, 0)", x.taste(3, 0), 9);
        due.is("appetite", x.appetite(0, 0), 0);
        due.is("taste(0, 1)", x.taste(0, 1), 5);
        due.bad(x, "taste(-1, 1)", () -> x.taste(-1, 1));
        due.bad(x, "taste(4, 1)", () -> x.taste(4, 1));
        due.bad(x, "taste(0, -1)", () -> x.taste(0, -1));
        due.bad(x, "taste(0, 10)", () -> x.taste(0, 10));
        x.give(0);
        x.taste(3, 5);
        due.is("now(1) behind a taste", x.now(1), 1);
        due.is("now(0) behind a taste", x.now(0), 4);
        due.is("undo() behind a taste", x.undo(), 1);
        due.is("taste(3, 5) behind undo", x.taste(3, 5), 5);
    }

    private static void put() {
        due.promise(5);
        MothsShare x = Due.told("bolt 0 0 1; bolt 0 0 1; bolt 0 0 1;");
        int[][] bounds = {{2, 6, 3}, {0, 99, 10}, {1, 9, 5}};
        for (int what = 0; what < 3; what++) {
            final int w = what;
            int[] b = bounds[what];
            due.is("put(" + w + ", least)", x.put(w, b[0]), b[2]);
            due.is("put(" + w + ", most)", x.put(w, b[1]), b[0]);
            due.bad(x, "put(" + w + ", below)", () -> x.put(w, b[0] - 1));
            due.bad(x, "put(" + w + ", above)", () -> x.put(w, b[1] + 1));
            due.is("put(" + w + ", as at first)", x.put(w, b[2]), b[1]);
        }
        due.bad(x, "put(-1, 5)", () -> x.put(-1, 5));
        due.bad(x, "put(3, 5)", () -> x.put(3, 5));
        x.give(0);
        due.is("put(1, 50)", x.put(1, 50), 10);
        due.is("now(1) behind WANT", x.now(1), 1);
        due.is("now(0) behind WANT", x.now(0), 4);
        due.bad(x, "put(2, 0)", () -> x.put(2, 0));
        due.is("put(0, 3)", x.put(0, 3), 3);
        due.is("now(1) behind EACH", x.now(1), 0);
        x.give(0);
        due.is("put(2, 5): the MOOD that was told", x.put(2, 5), 5);
        due.is("now(1) behind MOOD", x.now(1), 0);
        due.is("now(0) behind MOOD", x.now(0), 5);
        due.no(x, "undo() behind MOOD", () -> x.undo());
        x.put(2, 7);
        due.is("now(0)", x.now(0), 7);
    }

    private static int hunger(int breed, int taste, int colour, int smell) {
        boolean grey = colour == 0;
        boolean sheep = smell == 1;
        boolean cedar = smell == 3;
        int[] byBreed = {taste, cedar ? 0 : taste, taste + taste, taste + taste + (grey ? 5 : 0),
            cedar ? 0 : sheep ? taste + 3 : taste, (taste + taste) % 7};
        return byBreed[breed];
    }

    private static void appetite() {
        due.promise(6);
        for (int breed = 0; breed < 6; breed++) {
            MothsShare x = new MothsShare();
            x.moth(breed);
            x.bolt(0, 0, 0);
            for (int taste = 0; taste < 10; taste++) {
                for (int colour = 0; colour < 4; colour += 3) {
                    x.read();
                    x.moth(breed);
                    x.taste(colour, taste);
                    for (int smell = 0; smell < 4; smell++) {
                        x.bolt(colour, smell, 0);
                        due.is("breed " + breed + ", taste " + taste + ", colour " + colour + ", smell " + smell,
                            x.appetite(0, smell), hunger(breed, taste, colour, smell));
                    }
                }
            }
        }
        MothsShare x = Due.told("bolt 0 0 1; moth 0;");
        due.bad(x, "appetite(1, 0)", () -> x.appetite(1, 0));
        due.bad(x, "appetite(0, 1)", () -> x.appetite(0, 1));
        due.bad(x, "appetite(-1, 0)", () -> x.appetite(-1, 0));
        due.bad(x, "appetite(0, -1)", () -> x.appetite(0, -1));
        due.bad(x, "appetite(4, 12)", () -> x.appetite(4, 12));
        MothsShare rival = Due.told("bolt 2 1 1; moth 4; taste 2 0;");
        due.is("a RIVAL's 3 where the TASTE is nothing", rival.appetite(0, 0), 3);
    }

    private static void type() {
        due.promise(7);
        MothsShare x = new MothsShare();
        due.is("the lowest five of eight bytes", x.type(0x7A7A7A6561636832L, 5), 5);
        due.is("the lowest one of three bytes", x.type(0x7A7A3BL, 1), 6);
        due.is("each2;", x.read(), 1);
        due.is("EACH", x.put(0, 3), 2);
        due.bad(x, "type(1, 0)", () -> x.type(1, 0));
        due.bad(x, "type(1, 9)", () -> x.type(1, 9));
        due.bad(x, "type(1, -1)", () -> x.type(1, -1));
        x.clear();
        for (int i = 1; i <= 24; i++) {
            due.is("type 8", x.type(0x2020202020202020L, 8), 8 * i);
        }
        due.is("type 1", x.type(0x20, 1), 193);
        due.full(x, "type 8 behind 193", () -> x.type(0x20, 8));
        due.is("type 7", x.type(0x20202020202020L, 7), 200);
        due.full(x, "type 1 behind 200", () -> x.type(0x20, 1));
        due.bad(x, "type 9 behind 200", () -> x.type(0x20, 9));
        due.is("count(3)", x.count(3), 200);
        due.is("200 blanks", x.read(), 0);
        MothsShare high = new MothsShare();
        due.is("type(-1, 8)", high.type(-1L, 8), 8);
        due.is("bytes of 255", high.read(), -10);
    }

    private static void clear() {
        due.promise(8);
        MothsShare x = new MothsShare();
        due.is("clear()", x.clear(), 0);
        Due.type(x, "each 2;");
        due.is("clear()", x.clear(), 7);
        due.is("clear()", x.clear(), 0);
        due.is("count(3)", x.count(3), 0);
        due.is("read()", x.read(), 0);
        due.is("EACH", x.put(0, 3), 3);
    }
}
