/** Promises 25 to 30: the fraction, images, status, counts, the digest. */
public final class StateTest {
    private static final Due due = new Due();

    public static void main(String[] args) {
        part();
        imageAndFrom();
        fromKeepsUndo();
        status();
        count();
        digest();
        due.end();
    }

    private static void part() {
        due.promise(25);
        MothsShare x = new MothsShare();
        due.is("part(0)", x.part(0), 0);
        due.is("part(1)", x.part(1), 1);
        x.oracle(2, 1);
        due.is("part(0)", x.part(0), 3);
        due.is("part(1)", x.part(1), 4);
        due.bad(x, "part(-1)", () -> x.part(-1));
        due.bad(x, "part(2)", () -> x.part(2));
    }

    private static void imageAndFrom() {
        due.promise(26);
        String deed = "bolt 0 0 9; bolt 1 1 1; moth 2; taste 0 9; each 2; want 9; mood 7; holes 0 3;";
        MothsShare x = Due.told(deed);
        due.bad(x, "image(-1)", () -> x.image(-1));
        due.bad(x, "image(2)", () -> x.image(2));
        due.bad(x, "from(-1)", () -> x.from(-1));
        due.bad(x, "from(2)", () -> x.from(2));
        due.no(x, "from(0)", () -> x.from(0));
        due.is("image(0)", x.image(0), 1);
        due.no(x, "from(1)", () -> x.from(1));
        MothsShare first = Due.told(deed);
        x.bolt(2, 2, 2);
        x.moth(1);
        x.taste(0, 1);
        x.put(0, 3);
        x.put(1, 11);
        x.put(2, 2);
        x.holes(0, 4);
        x.give(-1);
        due.is("image(1)", x.image(1), 1);
        long second = x.digest();
        due.promise(27);
        due.is("from(0)", x.from(0), 1);
        due.is("digest of image 0", x.digest(), first.digest());
        due.is("now(1)", x.now(1), 0);
        x.bolt(3, 3, 3);
        due.is("from(1)", x.from(1), 1);
        due.is("digest of image 1", x.digest(), second);
        due.is("from(0) again: the image stays", x.from(0), 1);
        due.is("digest of image 0", x.digest(), first.digest());
        x.put(1, 50);
        due.is("image(0): the newer one counts", x.image(0), 1);
        x.put(1, 51);
        x.from(0);
        due.is("WANT", x.put(1, 50), 50);
        x.oracle(2, 1);
        Due.type(x, "each 2;");
        int bad = x.status(0);
        x.from(1);
        due.is("THE FRACTION stays", x.part(1), 4);
        due.is("THE TEXT stays", x.count(3), 7);
        due.is("THE TEXT stays", x.read(), 1);
        due.is("STATUS stays", x.status(0), bad);
        due.is("an image behind read()", x.from(1), 1);
    }

    private static void fromKeepsUndo() {
        MothsShare x = Due.told("each 2; want 0; bolt0 0 1;bolt0 0 2;bolt0 0 4;bolt0 0 8;bolt0 0 16;");
        x.give(1);
        x.give(2);
        x.image(0);
        x.undo();
        x.undo();
        x.give(-1);
        x.from(0);
        due.is("now(0)", x.now(0), 7);
        due.is("now(2)", x.now(2), 6);
        due.is("undo()", x.undo(), 1);
        due.is("now(0)", x.now(0), 6);
        due.is("now(2)", x.now(2), 2);
        due.is("undo()", x.undo(), 1);
        due.no(x, "undo()", () -> x.undo());
    }

    private static void status() {
        due.promise(28);
        MothsShare x = new MothsShare();
        x.bolt(4, 0, 0);
        x.cheapest(7);
        x.holes(0, 0);
        x.eaten(5);
        due.is("status(0): -2 and each -10", x.status(0), 4);
        x.undo();
        x.eaten(-1);
        due.is("status(1): -3 and -20", x.status(1), 2);
        for (int i = 0; i < 5; i++) {
            x.moth(0);
        }
        due.is("status(2)", x.status(2), 1);
        due.is("status(3)", x.status(3), -1);
        due.is("status(-1)", x.status(-1), -1);
        due.is("status(0): and these two", x.status(0), 6);
        due.is("status(1)", x.status(1), 2);
        x.drawn(3);
        x.tailor(1, 1);
        Due.read(x, "fly 1;");
        Due.read(x, "moth 9;");
        Due.read(x, "moth 0 moth;");
        due.is("NONE and read() count nowhere", x.status(0) * 100 + x.status(1) * 10 + x.status(2), 621);
    }

    private static void count() {
        due.promise(29);
        MothsShare x = Due.told("each 3; moth 0; moth 1; bolt0 0 1;bolt0 0 1;bolt0 0 1;");
        Due.type(x, "want");
        due.is("count(0)", x.count(0), 3);
        due.is("count(1)", x.count(1), 2);
        due.is("count(2)", x.count(2), 1);
        due.is("count(3)", x.count(3), 4);
        x.bolt(0, 0, 0);
        due.is("count(2)", x.count(2), 2);
        int[] groups = {6, 4, 3, 3, 2};
        for (int i = 4; i < 12; i++) {
            x.bolt(0, 0, 0);
        }
        for (int each = 2; each <= 6; each++) {
            x.put(0, each);
            due.is("count(2) by " + each, x.count(2), groups[each - 2]);
        }
        due.bad(x, "count(4)", () -> x.count(4));
        due.bad(x, "count(-1)", () -> x.count(-1));
    }

    private static long chain(long... values) {
        long h = 691;
        for (long v : values) {
            h = 31 * h + v;
        }
        return h;
    }

    private static void digest() {
        due.promise(30);
        due.is("of nothing", new MothsShare().digest(), chain(0, 0, 0, 0, 5, 5, 5, 5, 3, 10, 5, 5, 0, 0, 1));
        MothsShare x = Due.told("bolt 1 2 33; bolt 3 0 99; bolt 0 0 0; moth 5; moth 2; taste 1 8; each 2; want 4; mood 6; holes 1 12;");
        Due.type(x, "bolt");
        x.give(1);
        x.give(-1);
        x.oracle(1, 1);
        due.is("of all", x.digest(), chain(3, 2, 2, 4, 1, 2, 33, -1, 3, 0, 99, 12, 0, 0, 0, -1, 5, 2,
            5, 8, 5, 5, 2, 4, 6, 5, 2, 1, 12, 1, 2));
        long was = x.digest();
        x.image(0);
        x.status(9);
        due.is("images and STATUS are not in it", x.digest(), was);
    }
}
