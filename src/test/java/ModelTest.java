import java.util.Random;

/** Runs of 512 calls, each answer compared with the model's. The seeds are fixed: every run is the same again. */
public final class ModelTest {
    private static final int RUNS = 300;
    private static final int CALLS = 512;
    private static final int[] ODD = {-1, -2, 12, 100, 1000, 1000000, Integer.MAX_VALUE, Integer.MIN_VALUE};
    private static final Due due = new Due();

    private final Random random;
    private final MothsShare x = new MothsShare();
    private final Model m = new Model();
    private final boolean wild;
    private final boolean telling;

    private ModelTest(int run) {
        random = new Random(run);
        wild = run % 3 == 0;
        telling = run % 2 == 0;
    }

    public static void main(String[] args) {
        for (int run = 0; run < RUNS; run++) {
            ModelTest test = new ModelTest(run);
            due.about("run " + run);
            for (int call = 0; call < CALLS / 2; call++) {
                test.step();
                test.compare();
            }
        }
        due.end();
    }

    /** A number of least .. most; now and then one that may be outside. */
    private int number(int least, int most) {
        if (random.nextInt(wild ? 8 : 60) == 0) {
            return random.nextBoolean() ? ODD[random.nextInt(ODD.length)]
                : random.nextBoolean() ? least - 1 : most + 1;
        }
        return least + random.nextInt(most - least + 1);
    }

    private int aBolt() {
        return number(0, Math.max(0, m.s.cloths.size() - 1));
    }

    private int aMoth() {
        return number(0, Math.max(0, m.s.breeds.size() - 1));
    }

    private void compare() {
        due.is("digest()", x.digest(), m.digest());
    }

    private void step() {
        int kind = random.nextInt(100);
        if (kind < 30) {
            telling();
        } else if (kind < 60) {
            giving();
        } else if (kind < 85) {
            holes();
        } else {
            state();
        }
    }

    private void telling() {
        int a = number(0, 3);
        int b = number(0, 3);
        int c = number(0, random.nextBoolean() ? 9 : 99);
        switch (random.nextInt(10)) {
            case 0: case 1: case 2:
                due.is("bolt(" + a + ", " + b + ", " + c + ")", x.bolt(a, b, c), m.bolt(a, b, c));
                break;
            case 3:
                a = number(0, 5);
                due.is("moth(" + a + ")", x.moth(a), m.moth(a));
                break;
            case 4:
                c = number(0, 9);
                due.is("taste(" + a + ", " + c + ")", x.taste(a, c), m.taste(a, c));
                break;
            case 5: case 6:
                put();
                break;
            case 7:
                if (telling) {
                    deed();
                }
                break;
            case 8:
                a = aMoth();
                b = aBolt();
                due.is("appetite(" + a + ", " + b + ")", x.appetite(a, b), m.appetite(a, b));
                break;
            default:
                raw();
        }
    }

    private void put() {
        int what = number(0, 2);
        int v = what == 0 ? number(2, 6) : what == 1 ? number(0, random.nextInt(3) == 0 ? 99 : 30) : number(1, 9);
        due.is("put(" + what + ", " + v + ")", x.put(what, v), m.put(what, v));
    }

    private void raw() {
        long v = random.nextLong();
        int n = number(1, 8);
        due.is("type(" + v + ", " + n + ")", x.type(v, n), m.type(v, n));
        if (random.nextInt(4) > 0) {
            due.is("clear()", x.clear(), m.clear());
        }
    }

    private void deed() {
        due.is("clear()", x.clear(), m.clear());
        StringBuilder deed = new StringBuilder();
        int items = random.nextInt(14);
        for (int i = 0; i < items; i++) {
            item(deed);
        }
        int spoilt = random.nextInt(5);
        String signs = "; 0a9z1beach`{/:\u00ff\u0000";
        if (spoilt == 0 && deed.length() > 0) {
            deed.setCharAt(random.nextInt(deed.length()), signs.charAt(random.nextInt(signs.length())));
        } else if (spoilt == 1) {
            deed.insert(random.nextInt(deed.length() + 1), signs.charAt(random.nextInt(signs.length())));
        } else if (spoilt == 2 && deed.length() > 0) {
            deed.deleteCharAt(random.nextInt(deed.length()));
        }
        for (int i = 0; i < deed.length(); i += 5) {
            long v = random.nextLong();
            int end = Math.min(deed.length(), i + 5);
            for (int k = i; k < end; k++) {
                v = v << 8 | deed.charAt(k);
            }
            due.is("type(" + v + ", " + (end - i) + ")", x.type(v, end - i), m.type(v, end - i));
        }
        compare();
        due.is("read() of '" + m.text + "'", x.read(), m.read());
    }

    private void item(StringBuilder deed) {
        String blank = random.nextInt(4) == 0 ? "  " : "";
        deed.append(blank);
        int b = random.nextInt(4);
        int rare = random.nextInt(12) == 0 ? 1 : 0;
        switch (random.nextInt(12)) {
            case 0: deed.append("moth").append(blank).append(random.nextInt(6 + rare)); break;
            case 1: deed.append("taste ").append(b).append(' ').append(random.nextInt(10 + rare)); break;
            case 2: deed.append("each").append(2 - rare + random.nextInt(5 + 2 * rare)); break;
            case 3: deed.append("want ").append(blank).append(random.nextInt(40)); break;
            case 4: deed.append("mood").append(1 - rare + random.nextInt(9 + 2 * rare)); break;
            case 5: deed.append("holes ").append(random.nextInt(3 + rare)).append(' ').append(random.nextInt(6)); break;
            default: deed.append("bolt").append(b).append(' ').append(random.nextInt(4 + rare)).append(' ').append(random.nextInt(50));
        }
        deed.append(blank).append(';');
    }

    private void giving() {
        int a = aBolt();
        switch (random.nextInt(12)) {
            case 0:
                due.is("pleased(" + a + ")", x.pleased(a), m.pleased(a));
                break;
            case 1: case 2:
                a = number(-1, m.count(2) - 1);
                due.is("cheapest(" + a + ")", x.cheapest(a), m.cheapest(a));
                break;
            case 3:
                due.is("number()", x.number(), m.number());
                break;
            case 4:
                due.is("stands()", x.stands(), m.stands());
                break;
            case 5: case 6: case 7:
                give();
                break;
            case 8:
                if (random.nextInt(3) == 0) {
                    due.is("undo()", x.undo(), m.undo());
                }
                break;
            case 9:
                a = number(0, 3);
                due.is("now(" + a + ")", x.now(a), m.now(a));
                break;
            case 10:
                a = number(-1, m.s.breeds.size() - 1);
                due.is("eaten(" + a + ")", x.eaten(a), m.eaten(a));
                break;
            default:
                a = number(0, 999999);
                due.is("drawn(" + a + ")", x.drawn(a), m.drawn(a));
        }
    }

    private void give() {
        int each = m.s.terms[0];
        int group = m.s.gifts.size();
        int a = random.nextInt(8) == 0 ? aBolt() : random.nextInt(3) == 0 ? -1 : number(group * each, group * each + each - 1);
        due.is("give(" + a + ")", x.give(a), m.give(a));
    }

    private void holes() {
        int a = aBolt();
        int b = number(0, 5);
        switch (random.nextInt(6)) {
            case 0:
                b = random.nextBoolean() ? -1 : random.nextInt(4) == 0 ? number(0, 99) : number(0, 9);
                due.is("holes(" + a + ", " + b + ")", x.holes(a, b), m.holes(a, b));
                break;
            case 1:
                a = number(0, 1);
                due.is("byWhom(" + a + ")", x.byWhom(a), m.byWhom(a));
                break;
            case 2:
                fitting();
                break;
            case 3:
                a = number(0, 40);
                due.is("cedar(" + a + ")", x.cedar(a), m.cedar(a));
                break;
            case 4:
                a = number(1, 30);
                b = number(0, Math.max(0, Math.min(30, a)));
                due.is("oracle(" + a + ", " + b + ")", x.oracle(a, b), m.oracle(a, b));
                break;
            default:
                a = number(0, random.nextBoolean() ? 30 : 999);
                b = number(1, 9);
                due.is("tailor(" + a + ", " + b + ")", x.tailor(a, b), m.tailor(a, b));
        }
    }

    /** Tells such holes as a set of moths made, and asks for the mouths. */
    private void fitting() {
        int set = random.nextInt(16);
        for (int b = 0; b < m.s.cloths.size(); b++) {
            int sum = 0;
            for (int moth = 0; moth < m.s.breeds.size(); moth++) {
                sum += (set >> moth & 1) * (m.appetite(moth, b) / 3);
            }
            int n = random.nextInt(4) == 0 ? -1 : sum;
            due.is("holes(" + b + ", " + n + ")", x.holes(b, n), m.holes(b, n));
        }
        for (int what = 0; what < 2; what++) {
            due.is("byWhom(" + what + ")", x.byWhom(what), m.byWhom(what));
        }
        for (int i = 0; i < 6; i++) {
            int b = aBolt();
            int hole = number(0, 9);
            due.is("mouth(" + b + ", " + hole + ")", x.mouth(b, hole), m.mouth(b, hole));
        }
    }

    private void state() {
        int a = number(0, 1);
        switch (random.nextInt(6)) {
            case 0:
                due.is("part(" + a + ")", x.part(a), m.part(a));
                break;
            case 1:
                due.is("image(" + a + ")", x.image(a), m.image(a));
                break;
            case 2:
                due.is("from(" + a + ")", x.from(a), m.from(a));
                break;
            case 3: case 4:
                a = number(0, 2);
                due.is("status(" + a + ")", x.status(a), m.status(a));
                break;
            default:
                a = number(0, 3);
                due.is("count(" + a + ")", x.count(a), m.count(a));
        }
    }
}
