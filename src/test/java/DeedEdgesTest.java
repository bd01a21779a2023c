import java.util.function.Supplier;

/** Promise 9: each boundary that the document names of a deed has a test of its own. */
public final class DeedEdgesTest {
    private static final Edges edges = new Edges(9, 9);

    public static void main(String[] args) {
        edges.promise(9);
        emptyTexts();
        endsTooEarly();
        figures();
        bytes();
        words();
        blanks();
        stops();
        tooManyOrFew();
        firstFault();
        itemsAtTheirEdges();
        itemsRefused();
        placesFull();
        whichGoesAhead();
        toldAnew();
        stays();
        edges.end();
    }

    /** What read() answers of a text. */
    private static void reads(String name, String text, int items) {
        edges.test(name, due -> due.is("read() of '" + text + "'", Edges.typed(text).read(), items));
    }

    /** A text that is no deed: its answer, that STATUS stays, that all stays. */
    private static void refuses(String name, String text, int answer) {
        reads(name, text, answer);
        Supplier<MothsShare> made = () -> {
            MothsShare x = Edges.rich();
            x.clear();
            return Edges.typed(x, text);
        };
        edges.test(name + ", which counts nowhere in STATUS", due -> {
            MothsShare x = made.get();
            x.read();
            for (int s = 0; s < 3; s++) {
                due.is("status(" + s + ") behind '" + text + "'", x.status(s), 0);
            }
        });
        edges.test(name + ", and nothing changes", due -> Edges.changesNothing(due, made, x -> x.read()));
    }

    private static void fault(String name, int place, String text) {
        refuses(name + ": FAULT " + place, text, -10 - place);
    }

    private static void refusedItem(String name, int item, String text) {
        refuses(name + ": ITEM " + item + " is refused", text, -1000 - item);
    }

    /** A deed tells what the calls tell. */
    private static void tells(String name, int items, String text, String calls) {
        edges.test(name, due -> {
            MothsShare x = Edges.typed(text);
            due.is("read() of '" + text + "'", x.read(), items);
            x.clear();
            Edges.alike(due, x, Edges.made(calls));
        });
    }

    private static void emptyTexts() {
        reads("an empty TEXT has no FAULT", "", 0);
        reads("a TEXT of one blank has no FAULT", " ", 0);
        reads("a TEXT of blanks alone has no FAULT", "      ", 0);
        reads("a TEXT of 200 blanks has no FAULT", " ".repeat(200), 0);
        tells("an empty TEXT tells nothing", 0, "", "");
    }

    private static void endsTooEarly() {
        fault("it ends behind a word", 4, "each");
        fault("it ends behind a word and blanks", 6, "each  ");
        fault("it ends behind the last number", 6, "each 3");
        fault("it ends behind the last number and blanks", 9, "each 3   ");
        fault("it ends behind the first number of three", 6, "bolt 1");
        fault("it ends behind the second number of three", 8, "bolt 1 2");
        fault("it ends behind the third number of three", 10, "bolt 1 2 3");
        fault("it ends behind the first number of two", 7, "taste 1");
        fault("it ends behind the second number of two", 9, "holes 1 2");
        fault("it ends in a second ITEM", 12, "each 3;moth5");
        fault("a TEXT of 200 bytes that ends too early", 200, "each3;".repeat(32) + "   each3");
        fault("a TEXT of 200 bytes with blanks at its end", 200, "each 3" + " ".repeat(194));
    }

    private static void figures() {
        reads("one figure is a number", "want 7;", 1);
        reads("two figures are a number", "want 77;", 1);
        reads("two figures of which the first is 0 are a number", "want 07;", 1);
        tells("07 is 7", 1, "want 07;", "want 7");
        tells("00 is 0", 1, "want 00;", "want 0");
        tells("99 is 99", 1, "want 99;", "want 99");
        fault("three figures", 5, "want 123;");
        fault("three figures that begin with 0", 5, "want 007;");
        fault("three figures that end it", 5, "want 123");
        fault("four figures", 5, "want 1234;");
        fault("three figures without a blank ahead", 4, "want123;");
        fault("three figures as the second number", 7, "taste1 234;");
        fault("three figures as the third number", 9, "bolt 1 2 333;");
        fault("three figures where no number can stand", 0, "123;");
        fault("three figures behind an ITEM", 7, "want 7;123");
        fault("so many figures that they are no int", 5, "want 12345678901234567890;");
        fault("195 figures", 5, "want " + "9".repeat(195));
        reads("two numbers with one blank between", "taste 1 2;", 1);
        fault("two numbers without a blank are one, and the second is missed", 8, "taste 12;");
        fault("a word between the figures of a number", 6, "want 1a2;");
        reads("a number needs no blank behind a word", "want7;", 1);
    }

    private static void bytes() {
        fault("the byte below a", 4, "each`3;");
        fault("the byte above z", 4, "each{3;");
        fault("the byte below 0", 4, "each/3;");
        fault("the byte above 9", 4, "each:3;");
        fault("the byte above ;", 6, "each 3<");
        fault("the byte below a blank", 4, "each\u001f3;");
        fault("the byte above a blank", 4, "each!3;");
        fault("a byte of 0", 4, "each\u00003;");
        fault("a byte of 0 at the end", 7, "each 3;\u0000");
        fault("a byte of 255", 7, "each 3;\u00ff");
        fault("a byte of 128", 0, "\u0080each 3;");
        fault("a byte of 160, a blank and 128", 4, "each\u00a03;");
        fault("a tab", 4, "each\t3;");
        fault("a line's end", 7, "each 3;\n");
        fault("a great letter ahead of a word", 0, "Each 3;");
        fault("a great letter in a word", 0, "eAch 3;");
        fault("a great A behind a word", 4, "eachA 3;");
        fault("a great Z behind a word", 4, "eachZ 3;");
        fault("a great A behind a number", 6, "each 3A;");
        fault("a less sign ahead of a number", 5, "each -3;");
        fault("a great Z, the letters' last", 7, "each 3;Z");
    }

    private static void words() {
        String[] deeds = {"bolt 1 2 3;", "moth 5;", "taste 1 2;", "each 4;", "want 4;", "mood 4;"};
        String[] calls = {"bolt 1 2 3", "moth 5", "taste 1 2", "each 4", "want 4", "mood 4"};
        for (int i = 0; i < deeds.length; i++) {
            String word = calls[i].substring(0, calls[i].indexOf(' '));
            tells("the word " + word, 1, deeds[i], calls[i]);
            fault(word + " less its last letter is none", 0, word.substring(0, word.length() - 1) + deeds[i].substring(word.length()));
            fault(word + " less its first letter is none", 0, deeds[i].substring(1));
            fault(word + " and a letter more is none", 0, word + "s" + deeds[i].substring(word.length()));
            fault(word + " with another last letter is none", 0,
                word.substring(0, word.length() - 1) + "z" + deeds[i].substring(word.length()));
            fault(word + " with another first letter is none", 0, "z" + deeds[i].substring(1));
            fault(word + " with another letter within is none", 0, word.charAt(0) + "z" + deeds[i].substring(2));
            fault(word + " and a, the first letter, is none", 0, word + "a" + deeds[i].substring(word.length()));
            fault(word + " and z, the last letter, is none", 0, word + "z" + deeds[i].substring(word.length()));
        }
        tells("the word holes", 2, "bolt 1 2 3;holes 0 9;", "bolt 1 2 3; holes 0 9");
        fault("hole is none", 11, "bolt 1 2 3;hole 0 9;");
        fault("holess is none", 11, "bolt 1 2 3;holess 0 9;");
        fault("zoles is none", 11, "bolt 1 2 3;zoles 0 9;");
        fault("one letter is no word", 0, "e");
        fault("the letter a is no word", 0, "a 3;");
        fault("the letter z is no word", 0, "z 3;");
        fault("200 letters are no word", 0, "e".repeat(200));
        fault("two words without a blank are one that is none", 0, "eachwant 3;");
        fault("a word that is none behind an ITEM", 7, "each 3;fly");
        fault("a word that is none where a number is due", 5, "each fly;");
        fault("a word where a number is due", 5, "each want 3;");
        fault("a word where ; is due", 7, "each 3 want 3;");
        fault("a word without a blank where ; is due", 6, "each 3want 3;");
        fault("a number where a word is due", 0, "3;");
        fault("a number behind an ITEM", 7, "each 3;3;");
    }

    private static void blanks() {
        reads("a blank ahead of all", " each 3;", 1);
        reads("many blanks ahead of all", "     each 3;", 1);
        reads("a blank behind all", "each 3; ", 1);
        reads("many blanks behind all", "each 3;     ", 1);
        reads("no blank between a word and a number", "each3;", 1);
        reads("many blanks between a word and a number", "each      3;", 1);
        reads("no blank between a number and ;", "each 3;", 1);
        reads("many blanks between a number and ;", "each 3      ;", 1);
        reads("no blank between ; and a word", "each 3;want 3;", 2);
        reads("many blanks between ; and a word", "each 3;     want 3;", 2);
        reads("many blanks between two numbers", "taste 1      2;", 1);
        reads("one ITEM of 200 bytes with its blanks", "each" + " ".repeat(194) + "3;", 1);
        fault("a blank within a word", 0, "ea ch 3;");
        fault("a FAULT behind blanks is told by its own place", 9, "each     fly;");
    }

    private static void stops() {
        fault("; alone", 0, ";");
        fault("; behind a blank", 1, " ;");
        fault("a second ; ", 7, "each 3;;");
        fault("; behind a word", 4, "each;");
        fault("; behind the first number of three", 6, "bolt 1;");
        fault("; behind the second number of three", 8, "bolt 1 2;");
        fault("; behind the first number of two", 7, "taste 1;");
    }

    private static void tooManyOrFew() {
        fault("a fourth number of bolt", 11, "bolt 1 2 3 4;");
        fault("a second number of moth", 7, "moth 1 2;");
        fault("a third number of taste", 10, "taste 1 2 3;");
        fault("a second number of each", 7, "each 3 3;");
        fault("a second number of want", 7, "want 3 3;");
        fault("a second number of mood", 7, "mood 3 3;");
        fault("a third number of holes", 21, "bolt 1 2 3;holes 0 1 2;");
        reads("the most ITEMS, 33 of six bytes", "each3;".repeat(33), 33);
        reads("the most ITEMS and two blanks", "each3;".repeat(33) + "  ", 33);
        fault("a word cut off by the 200th byte", 198, "each3;".repeat(33) + "ea");
        fault("the last byte", 199, "each3;".repeat(33) + " ;");
    }

    private static void firstFault() {
        fault("of two FAULTS the first", 5, "each fly 1234;");
        fault("of two FAULTS in two ITEMS the first", 4, "each;want;");
        fault("a FAULT ahead of an end that is too early", 7, "each 3;;each");
        fault("a FAULT at the first byte", 0, "!");
    }

    private static void itemsAtTheirEdges() {
        tells("bolt with the least numbers", 1, "bolt 0 0 0;", "bolt 0 0 0");
        tells("bolt with the greatest numbers", 1, "bolt 3 3 99;", "bolt 3 3 99");
        tells("moth with the least number", 1, "moth 0;", "moth 0");
        tells("moth with the greatest number", 1, "moth 5;", "moth 5");
        tells("taste with the least numbers", 1, "taste 0 0;", "taste 0 0");
        tells("taste with the greatest numbers", 1, "taste 3 9;", "taste 3 9");
        tells("each with the least number", 1, "each 2;", "each 2");
        tells("each with the greatest number", 1, "each 6;", "each 6");
        tells("want with the least number", 1, "want 0;", "want 0");
        tells("want with the greatest number", 1, "want 99;", "want 99");
        tells("mood with the least number", 1, "mood 1;", "mood 1");
        tells("mood with the greatest number", 1, "mood 9;", "mood 9");
        tells("holes with the least numbers", 2, "bolt 1 1 1;holes 0 0;", "bolt 1 1 1; holes 0 0");
        tells("holes with the greatest number", 3, "bolt 1 1 1;bolt 1 1 1;holes 1 99;",
            "bolt 1 1 1; bolt 1 1 1; holes 1 99");
        tells("of like ITEMS the last one counts", 2, "want 3;want 4;", "want 4");
    }

    private static void itemsRefused() {
        refusedItem("bolt of COLOUR 4", 0, "bolt 4 0 0;");
        refusedItem("bolt of SMELL 4", 0, "bolt 0 4 0;");
        refusedItem("moth of BREED 6", 0, "moth 6;");
        refusedItem("taste of COLOUR 4", 0, "taste 4 0;");
        refusedItem("a TASTE of 10", 0, "taste 0 10;");
        refusedItem("each of 1", 0, "each 1;");
        refusedItem("each of 7", 0, "each 7;");
        refusedItem("mood of 0", 0, "mood 0;");
        refusedItem("mood of 10", 0, "mood 10;");
        refusedItem("holes where there is no BOLT", 0, "holes 0 1;");
        refusedItem("holes ahead of their BOLT", 0, "holes 0 1;bolt 0 0 0;");
        refusedItem("holes of BOLT 1 of one", 1, "bolt 0 0 0;holes 1 1;");
        refusedItem("the second ITEM", 1, "want 9;mood 0;want 8;");
        refusedItem("of two that are refused the first", 1, "want 9;mood 0;moth 6;");
        refusedItem("the last of 33", 32, "each3;".repeat(32) + "each7;");
        refusedItem("behind ITEMS that are told", 3, "bolt 3 3 3;moth 3;taste 0 0;each 9;");
    }

    private static void placesFull() {
        String twelve = "bolt0 0 0;".repeat(12);
        tells("twelve BOLTS", 12, twelve, Edges.bolts(12, "0 0 0"));
        refusedItem("a thirteenth BOLT", 12, twelve + "bolt0 0 0;");
        refusedItem("a thirteenth BOLT behind other ITEMS", 14, "moth 1;want 1;" + twelve + "bolt0 0 0;");
        tells("four MOTHS", 4, "moth0;moth1;moth2;moth3;", "moth 0; moth 1; moth 2; moth 3");
        refusedItem("a fifth MOTH", 4, "moth0;moth1;moth2;moth3;moth4;");
        tells("behind twelve BOLTS holes of the last", 13, twelve + "holes 11 5;", Edges.bolts(12, "0 0 0") + "holes 11 5");
        refusedItem("holes of BOLT 12 of twelve", 12, twelve + "holes 12 5;");
    }

    private static void whichGoesAhead() {
        fault("a FAULT behind an ITEM that would be refused goes ahead", 7, "each 7;fly");
        fault("an end too early behind an ITEM that would be refused goes ahead", 11, "each 7;each");
        fault("a FAULT ahead of an ITEM that would be refused", 0, "fly;each 7;");
        fault("a FAULT in the ITEM that would be refused", 7, "each 7 7;");
        edges.test("BOLTS of ahead do not fill the places of a deed", due -> {
            MothsShare x = Edges.typed(Edges.made(Edges.bolts(12, "1 1 1") + "moth 0; moth 0; moth 0; moth 0"),
                "bolt 0 0 0;moth 1;");
            due.is("read()", x.read(), 2);
            due.is("count(0)", x.count(0), 1);
            due.is("count(1)", x.count(1), 1);
        });
        edges.test("holes of a BOLT of ahead are refused", due ->
            due.is("read()", Edges.typed(Edges.made("bolt 1 1 1"), "holes 0 1;").read(), -1000));
    }

    private static void anew(String name, String told, String text, String calls) {
        edges.test(name, due -> {
            MothsShare x = Edges.typed(Edges.made(told), text);
            due.is("read() of '" + text + "' is told", x.read() >= 0 ? 1 : 0, 1);
            x.clear();
            Edges.alike(due, x, Edges.made(calls));
        });
    }

    private static void toldAnew() {
        anew("BOLTS of ahead are no more", "bolt 1 1 1", "want 3;", "want 3");
        anew("MOTHS of ahead are no more", "moth 4", "want 3;", "want 3");
        anew("TASTES are 5 again", "taste 0 0; taste 1 1; taste 2 2; taste 3 3", "taste 1 9;", "taste 1 9");
        anew("EACH is 3 again", "each 6", "want 3;", "want 3");
        anew("WANT is 10 again", "want 99", "each 2;", "each 2");
        anew("MOOD is 5 again", "mood 9", "each 2;", "each 2");
        anew("HOLES are none again", "bolt 1 1 1; holes 0 9", "bolt 1 1 1;", "bolt 1 1 1");
        anew("nothing is given", "bolt 1 1 1; give 0", "bolt 1 1 1;", "bolt 1 1 1");
        anew("it is BROKEN no more", "mood 1; bolt 1 1 1; give 0", "mood 1;bolt 1 1 1;", "mood 1; bolt 1 1 1");
        anew("by an empty TEXT all is as at first", "each 2; want 1; mood 9; taste 0 0; moth 1; bolt 1 1 1; holes 0 9; give 0", "", "");
        edges.test("nothing can be undone", due -> {
            MothsShare x = Edges.typed(Edges.made("bolt 1 1 1; bolt 1 1 1; each 2; give 0"), "bolt 1 1 1;");
            x.read();
            due.is("undo()", x.undo(), -3);
        });
        edges.test("a deed is read again as before", due -> {
            MothsShare x = Edges.typed("bolt 1 1 1;moth 0;");
            due.is("read()", x.read(), 2);
            due.is("read()", x.read(), 2);
            due.is("count(0)", x.count(0), 1);
            due.is("count(1)", x.count(1), 1);
        });
        edges.test("behind one that was refused a deed tells its own alone", due -> {
            MothsShare x = Edges.typed("bolt 1 1 1;moth 4;each 2;holes 0 7;mood 0;");
            due.is("read()", x.read(), -1004);
            x.clear();
            due.is("read()", Edges.typed(x, "bolt 1 1 1;").read(), 1);
            x.clear();
            Edges.alike(due, x, Edges.made("bolt 1 1 1"));
        });
    }

    private static void stays() {
        edges.test("THE TEXT stays", due -> {
            MothsShare x = Edges.typed("each 2;");
            x.read();
            due.is("count(3)", x.count(3), 7);
        });
        edges.test("THE FRACTION stays", due -> {
            MothsShare x = Edges.typed(Edges.made("oracle 3 1"), "each 2;");
            x.read();
            due.is("part(0)", x.part(0), 7);
            due.is("part(1)", x.part(1), 8);
        });
        edges.test("STATUS stays", due -> {
            MothsShare x = Edges.typed("each 2;");
            x.undo();
            x.moth(6);
            x.type(0, 9);
            x.read();
            due.is("status(0)", x.status(0), 2);
            due.is("status(1)", x.status(1), 1);
            due.is("status(2)", x.status(2), 0);
        });
        edges.test("IMAGES stay", due -> {
            MothsShare x = Edges.typed(Edges.made("bolt 1 1 1; want 0; give 0; image 1"), "each 2;");
            x.read();
            due.is("from(1)", x.from(1), 1);
            due.is("count(0)", x.count(0), 1);
            due.is("now(1)", x.now(1), 1);
        });
    }
}
