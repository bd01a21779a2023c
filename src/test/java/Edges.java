import java.util.ArrayList;
import java.util.HashSet;
import java.util.List;
import java.util.Set;
import java.util.function.Consumer;
import java.util.function.Supplier;
import java.util.function.ToLongFunction;

/**
 * Tests of one boundary each, named by their promise. Every test makes objects of its own, and tells them by
 * calls, not by a deed, so that a fault in read() shows in read()'s tests alone.
 */
final class Edges {
    private static final int BAD = 0, NO = 1, FULL = 2;
    private static final int NONE = MothsShare.NONE;

    private final int first;
    private final int[] testsOf;
    private final Set<String> names = new HashSet<>();
    private int promise;
    private int failed = 0;

    /** Tests of these promises, each of which must have one at least. */
    Edges(int firstPromise, int lastPromise) {
        first = firstPromise;
        testsOf = new int[lastPromise - firstPromise + 1];
        promise = firstPromise;
    }

    void promise(int number) {
        promise = number;
    }

    void test(String name, Consumer<Due> body) {
        String full = "promise " + promise + ": " + name;
        if (!names.add(full)) {
            throw new IllegalStateException("two tests bear the name " + full);
        }
        Due due = new Due();
        due.about(full);
        try {
            body.accept(due);
        } catch (RuntimeException e) {
            due.is("whether it threw " + e, 1, 0);
        }
        testsOf[promise - first]++;
        if (!due.holds()) {
            failed++;
            System.out.println("failed: " + full);
        }
    }

    /** What a call answers behind what was told. */
    void is(String name, long want, String told, ToLongFunction<MothsShare> call) {
        test(name, due -> due.is("the call", call.applyAsLong(made(told)), want));
    }

    // -- refusals

    /** BAD, by an object of which all has been told. */
    void bad(String name, ToLongFunction<MothsShare> call) {
        refused(name + " is BAD", BAD, MothsShare.BAD, Edges::rich, call);
    }

    void bad(String name, String told, ToLongFunction<MothsShare> call) {
        refused(name + " is BAD", BAD, MothsShare.BAD, () -> made(told), call);
    }

    void badTen(String name, ToLongFunction<MothsShare> call) {
        refused(name + " is BAD (-10)", BAD, -10, Edges::rich, call);
    }

    void badTen(String name, String told, ToLongFunction<MothsShare> call) {
        refused(name + " is BAD (-10)", BAD, -10, () -> made(told), call);
    }

    void no(String name, String told, ToLongFunction<MothsShare> call) {
        refused(name + ": NO", NO, MothsShare.NO, () -> made(told), call);
    }

    void noTwenty(String name, String told, ToLongFunction<MothsShare> call) {
        refused(name + ": NO (-20)", NO, -20, () -> made(told), call);
    }

    void full(String name, String told, ToLongFunction<MothsShare> call) {
        refused(name + " is FULL", FULL, MothsShare.FULL, () -> made(told), call);
    }

    void full(String name, Supplier<MothsShare> made, ToLongFunction<MothsShare> call) {
        refused(name + " is FULL", FULL, MothsShare.FULL, made, call);
    }

    /** Three tests: of the answer, of STATUS, and that all else is as in a twin that was not asked. */
    void refused(String name, int kind, long answer, Supplier<MothsShare> made, ToLongFunction<MothsShare> call) {
        test(name, due -> due.is("the call", call.applyAsLong(made.get()), answer));
        test(name + ", in STATUS", due -> {
            MothsShare x = made.get();
            int[] before = {x.status(BAD), x.status(NO), x.status(FULL)};
            call.applyAsLong(x);
            for (int s = BAD; s <= FULL; s++) {
                due.is("status(" + s + ")", x.status(s), before[s] + (s == kind ? 1 : 0));
            }
        });
        test(name + ", and changes nothing else", due -> changesNothing(due, made, call));
    }

    /** An answer that is no refusal: it counts nowhere in STATUS. */
    void uncounted(String name, long answer, String told, ToLongFunction<MothsShare> call) {
        test(name, due -> {
            MothsShare x = made(told);
            int[] before = {x.status(BAD), x.status(NO), x.status(FULL)};
            due.is("the call", call.applyAsLong(x), answer);
            for (int s = BAD; s <= FULL; s++) {
                due.is("status(" + s + ")", x.status(s), before[s]);
            }
        });
    }

    /** A question that is answered: it changes nothing, not even STATUS. */
    void asks(String name, ToLongFunction<MothsShare> call) {
        test(name + " changes nothing", due -> {
            MothsShare x = rich();
            call.applyAsLong(x);
            due.is("STATUS", x.status(BAD) + x.status(NO) + x.status(FULL), 0);
            alike(due, x, rich());
        });
    }

    static void changesNothing(Due due, Supplier<MothsShare> made, ToLongFunction<MothsShare> call) {
        MothsShare asked = made.get();
        call.applyAsLong(asked);
        alike(due, asked, made.get());
    }

    /** Whether two objects answer alike in all that they can be asked, STATUS excepted; both are changed by it. */
    static void alike(Due due, MothsShare x, MothsShare y) {
        List<Long> answers = everything(x);
        List<Long> wants = everything(y);
        for (int i = 0; i < answers.size(); i++) {
            due.is("answer " + i + " of all that can be asked", answers.get(i), wants.get(i));
        }
    }

    private static List<Long> everything(MothsShare x) {
        List<Long> all = new ArrayList<>();
        look(x, all);
        for (int b = 0; b < 12; b++) {
            all.add((long) x.pleased(b));
            all.add((long) x.mouth(b, 0));
            for (int m = 0; m < 4; m++) {
                all.add((long) x.appetite(m, b));
            }
        }
        int[] asked = {x.number(), x.byWhom(0), x.byWhom(1), x.cedar(3), x.cedar(14), x.tailor(9, 2), x.drawn(7)};
        for (int answer : asked) {
            all.add((long) answer);
        }
        for (int m = NONE; m < 4; m++) {
            all.add((long) x.eaten(m));
        }
        takeBack(x, all);
        for (int i = 0; i < 2; i++) {
            all.add((long) x.from(i));
            look(x, all);
            takeBack(x, all);
        }
        all.add((long) x.read());
        look(x, all);
        all.add((long) x.clear());
        all.add((long) x.stands());
        look(x, all);
        return all;
    }

    private static void look(MothsShare x, List<Long> all) {
        all.add(x.digest());
        all.add(x.part(0));
        all.add(x.part(1));
        for (int what = 0; what < 4; what++) {
            all.add((long) x.count(what));
            all.add((long) x.now(what));
        }
        for (int g = NONE; g < 6; g++) {
            all.add((long) x.cheapest(g));
        }
    }

    private static void takeBack(MothsShare x, List<Long> all) {
        for (int time = 0; time < 7; time++) {
            all.add((long) x.undo());
            all.add((long) x.now(0));
            all.add((long) x.now(2));
        }
    }

    // -- what the objects are told

    /** An object of which all has been told: gifts, holes, both images, a fraction, a text that is a deed. */
    static MothsShare rich() {
        MothsShare x = made("each 2; mood 6; want 9; taste 0 9; taste 1 2; moth 2; moth 1; bolt 0 0 5; bolt 1 3 7;"
            + "bolt 2 1 9; bolt 0 2 11; bolt 3 0 13; holes 0 6; holes 2 3; image 1; give 1; image 0; give none;"
            + "oracle 3 1");
        typed(x, "bolt1 2 3;moth4;want7;holes0 8;");
        return x;
    }

    /** A new object, told by calls that stand as words, with 'none' for NONE; none of them may be refused. */
    static MothsShare made(String told) {
        MothsShare x = new MothsShare();
        tell(x, told);
        return x;
    }

    static void tell(MothsShare x, String told) {
        for (String step : told.split(";")) {
            String[] words = step.trim().split(" +");
            if (!words[0].isEmpty() && callOf(x, words) < NONE) {
                throw new IllegalStateException("refused: " + step);
            }
        }
    }

    private static int callOf(MothsShare x, String[] words) {
        int[] n = new int[words.length - 1];
        for (int i = 0; i < n.length; i++) {
            n[i] = words[i + 1].equals("none") ? NONE : Integer.parseInt(words[i + 1]);
        }
        switch (words[0]) {
            case "bolt": return x.bolt(n[0], n[1], n[2]);
            case "moth": return x.moth(n[0]);
            case "taste": return x.taste(n[0], n[1]);
            case "each": return x.put(0, n[0]);
            case "want": return x.put(1, n[0]);
            case "mood": return x.put(2, n[0]);
            case "holes": return x.holes(n[0], n[1]);
            case "give": return x.give(n[0]);
            case "undo": return x.undo();
            case "image": return x.image(n[0]);
            case "from": return x.from(n[0]);
            case "oracle": return x.oracle(n[0], n[1]);
            default: throw new IllegalStateException("no such word: " + words[0]);
        }
    }

    /** So many bolts alike, as words for made(). */
    static String bolts(int howMany, String bolt) {
        return ("bolt " + bolt + ";").repeat(howMany);
    }

    static MothsShare typed(MothsShare x, String text) {
        Due.type(x, text);
        return x;
    }

    static MothsShare typed(String text) {
        return typed(new MothsShare(), text);
    }

    void end() {
        int tests = 0;
        for (int i = 0; i < testsOf.length; i++) {
            tests += testsOf[i];
            if (testsOf[i] == 0) {
                System.out.println("promise " + (first + i) + " has no test");
                failed++;
            }
        }
        System.out.println(tests + " tests, " + failed + " failed");
        if (failed > 0) {
            System.exit(1);
        }
    }
}
