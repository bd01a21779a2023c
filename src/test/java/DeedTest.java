/** Promise 9: a deed is read, with its faults and its items that are refused. */
public final class DeedTest {
    private static final Due due = new Due();

    public static void main(String[] args) {
        due.promise(9);
        withoutFault();
        faults();
        refusedItems();
        everyItemTells();
        toldAnew();
        nothingChanges();
        due.end();
    }

    private static void reads(String text, int want) {
        MothsShare x = new MothsShare();
        due.is("read() of '" + text + "'", Due.read(x, text), want);
        for (int s = 0; s < 3; s++) {
            due.is("status(" + s + ") behind read() of '" + text + "'", x.status(s), 0);
        }
        due.is("count(3) behind read() of '" + text + "'", x.count(3), text.length());
    }

    private static void fault(String text, int place) {
        reads(text, -10 - place);
    }

    private static void withoutFault() {
        reads("", 0);
        reads(" ", 0);
        reads("     ", 0);
        reads("each 3;", 1);
        reads("each3;", 1);
        reads("each03;", 1);
        reads("  each   3  ;  ", 1);
        reads("each3;want99;mood1;", 3);
        reads("bolt0 0 0;moth5;taste3 9;each6;want0;mood9;holes0 99;", 7);
        reads("bolt 00 03 07 ;", 1);
        reads("each3;".repeat(33) + "  ", 33);
        reads("bolt 0 0 0;holes 0 1;", 2);
        reads("bolt0 0 0;".repeat(12), 12);
    }

    private static void faults() {
        fault("each 3", 6);
        fault("each 3  ", 8);
        fault("each", 4);
        fault("each ", 5);
        fault("each 3;each", 11);
        fault("bolt 1 2 3", 10);
        fault("bolt 1 2", 8);
        fault("e", 0);
        fault("  e", 2);
        fault("fly 1;", 0);
        fault("eachs 3;", 0);
        fault("eac 3;", 0);
        fault("boltmoth 3;", 0);
        fault("xach 3;", 0);
        fault("eacx 3;", 0);
        fault("eachz 3;", 0);
        fault("each 3;eacha", 7);
        fault("Each 3;", 0);
        fault("eacH 3;", 0);
        fault(";", 0);
        fault(" ;", 1);
        fault("each 3;;", 7);
        fault("3;", 0);
        fault("each ;", 5);
        fault("each 3 4;", 7);
        fault("each each 3;", 5);
        fault("each three;", 5);
        fault("each 3 want 3;", 7);
        fault("each 3want 3;", 6);
        fault("each 003;", 5);
        fault("each 100;", 5);
        fault("each3 100;", 6);
        fault("1000", 0);
        fault("bolt 123;", 5);
        fault("bolt 1 23;", 9);
        fault("bolt 1 2;", 8);
        fault("bolt 1 2 3 4;", 11);
        fault("taste 1;", 7);
        fault("taste 1 2 3;", 10);
        fault("moth 1 2;", 7);
        fault("holes 1;", 7);
        fault("holes 1 2 3;", 10);
        fault("want 1 2;", 7);
        fault("mood 1 2;", 7);
        fault("each -3;", 5);
        fault("each 3,", 6);
        fault("each\t3;", 4);
        fault("each 3;\n", 7);
        fault("each 3;\u00e5", 7);
        fault("\u00a0each 3;", 0);
        fault("each 3;\u0000", 7);
        fault("each`3;", 4);
        fault("each{3;", 4);
        fault("each/3;", 4);
        fault("each:3;", 4);
        fault("each3;".repeat(33) + " e", 199);
        fault("each3;".repeat(33) + "ea", 198);
        fault("each3;".repeat(32) + "   each3", 200);
    }

    private static void refusedItems() {
        reads("moth 6;", -1000);
        reads("each 3;each 7;", -1001);
        reads("each 1;each 7;", -1000);
        reads("want 99;mood 10;", -1001);
        reads("mood 0;", -1000);
        reads("bolt 4 0 0;", -1000);
        reads("bolt 0 4 0;", -1000);
        reads("taste 4 0;", -1000);
        reads("taste 0 10;", -1000);
        reads("holes 0 1;bolt 0 0 0;", -1000);
        reads("bolt 0 0 0;holes 1 1;", -1001);
        reads("moth0;moth1;moth2;moth3;moth4;", -1004);
        reads("bolt0 0 0;".repeat(13), -1012);
        reads("each3;".repeat(32) + "each7;", -1032);
        fault("moth 6;each", 11);
        fault("moth 6;each 3;;", 14);
    }

    private static void everyItemTells() {
        MothsShare x = new MothsShare();
        due.is("read()", Due.read(x, "bolt 1 2 34; bolt 3 1 5; moth 4; taste 1 7; each 2; want 3; mood 8; holes 1 42;"), 8);
        MothsShare y = new MothsShare();
        y.bolt(1, 2, 34);
        y.bolt(3, 1, 5);
        y.moth(4);
        y.taste(1, 7);
        y.put(0, 2);
        y.put(1, 3);
        y.put(2, 8);
        y.holes(1, 42);
        x.clear();
        due.is("digest of the deed and of the calls", x.digest(), y.digest());
        due.is("RIVAL's appetite", x.appetite(0, 1), 8);
        due.is("TASTE", x.taste(1, 0), 7);
        due.is("HOLES", x.holes(1, 0), 42);
        due.is("HOLES", x.holes(0, 0), -1);
        due.is("EACH", x.put(0, 3), 2);
        due.is("WANT", x.put(1, 10), 3);
        due.is("MOOD", x.put(2, 5), 8);
    }

    private static void toldAnew() {
        MothsShare x = new MothsShare();
        x.bolt(1, 1, 1);
        x.moth(1);
        x.taste(2, 2);
        x.put(0, 2);
        x.put(1, 20);
        x.put(2, 2);
        x.holes(0, 7);
        x.image(1);
        x.oracle(2, 1);
        x.give(0);
        x.give(0);
        due.is("read()", Due.read(x, "bolt 0 0 9;"), 1);
        due.is("count(0)", x.count(0), 1);
        due.is("count(1)", x.count(1), 0);
        due.is("count(3): THE TEXT stays", x.count(3), 11);
        due.is("TASTE", x.taste(2, 5), 5);
        due.is("EACH", x.put(0, 3), 3);
        due.is("WANT", x.put(1, 10), 10);
        due.is("now(0)", x.now(0), 5);
        due.is("now(1)", x.now(1), 0);
        due.is("MOOD", x.put(2, 5), 5);
        due.is("HOLES", x.holes(0, 3), -1);
        due.is("THE FRACTION stays", x.part(0) * 10 + x.part(1), 34);
        due.is("STATUS stays", x.status(1), 1);
        due.no(x, "undo()", () -> x.undo());
        due.is("an IMAGE stays", x.from(1), 1);
        due.is("HOLES of it", x.holes(0, 7), 7);
        for (int time = 0; time < 3; time++) {
            due.is("read() again", Due.read(x, "bolt 1 0 9; moth 3; taste 3 1; each 4; want 0; mood 8;"), 6);
            due.is("count(0)", x.count(0), 1);
            due.is("count(1)", x.count(1), 1);
            due.is("give(0)", x.give(0), 9);
        }
        due.is("read() of nothing", Due.read(x, " "), 0);
        due.is("digest", x.digest(), digestOfBlank(x));
    }

    /** The digest of a new object with one blank as its text and x's fraction. */
    private static long digestOfBlank(MothsShare x) {
        MothsShare y = new MothsShare();
        y.type(32, 1);
        y.oracle(2, 1);
        due.is("THE FRACTION", x.part(0), y.part(0));
        return y.digest();
    }

    private static void nothingChanges() {
        MothsShare x = Due.told("bolt 0 0 9; bolt 1 1 1; moth 2; taste 0 9; mood 7; holes 0 3;");
        x.give(1);
        String[] texts = {"mood 100;", "fly 1;", "bolt 0 0 0; moth 7;", "bolt 3 3 3; each 2"};
        int[] wants = {-15, -10, -1001, -28};
        for (int i = 0; i < texts.length; i++) {
            x.clear();
            Due.type(x, texts[i]);
            long digest = x.digest();
            due.is("read() of '" + texts[i] + "'", x.read(), wants[i]);
            due.is("digest behind '" + texts[i] + "'", x.digest(), digest);
            due.is("STATUS behind '" + texts[i] + "'", x.status(0) + x.status(1) + x.status(2), 0);
        }
        due.is("undo() behind them", x.undo(), 1);
        due.is("now(0)", x.now(0), 7);
    }
}
