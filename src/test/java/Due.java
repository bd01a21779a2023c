import java.util.function.LongSupplier;

/** Compares answers with those that are due, and ends a test's run. */
final class Due {
    private int asked = 0;
    private int wrong = 0;
    private String promise = "";

    void promise(int number) {
        promise = "promise " + number;
    }

    void about(String what) {
        promise = what;
    }

    void is(String call, long got, long want) {
        asked++;
        if (got != want) {
            wrong++;
            if (wrong <= 40) {
                System.out.println(promise + ": " + call + " answered " + got + ", due is " + want);
            }
        }
    }

    /** A call that is refused: its answer, one more in that STATUS alone, nothing else changed. */
    void refused(MothsShare x, int status, String call, LongSupplier answer, long want) {
        long digest = x.digest();
        int[] before = {x.status(0), x.status(1), x.status(2)};
        is(call, answer.getAsLong(), want);
        is("digest behind " + call, x.digest(), digest);
        for (int s = 0; s < 3; s++) {
            is("status(" + s + ") behind " + call, x.status(s), before[s] + (s == status ? 1 : 0));
        }
    }

    void bad(MothsShare x, String call, LongSupplier answer) {
        refused(x, 0, call, answer, MothsShare.BAD);
    }

    void badTen(MothsShare x, String call, LongSupplier answer) {
        refused(x, 0, call, answer, -10);
    }

    void no(MothsShare x, String call, LongSupplier answer) {
        refused(x, 1, call, answer, MothsShare.NO);
    }

    void full(MothsShare x, String call, LongSupplier answer) {
        refused(x, 2, call, answer, MothsShare.FULL);
    }

    /** Types a text, eight bytes a call. */
    static void type(MothsShare x, String text) {
        for (int i = 0; i < text.length(); i += 8) {
            int end = Math.min(text.length(), i + 8);
            long v = 0;
            for (int k = i; k < end; k++) {
                v = v << 8 | text.charAt(k) & 255;
            }
            x.type(v, end - i);
        }
    }

    /** Reads a text alone. */
    static int read(MothsShare x, String text) {
        x.clear();
        type(x, text);
        return x.read();
    }

    /** A new object told by a text; the text is cleared. */
    static MothsShare told(String text) {
        MothsShare x = new MothsShare();
        int items = read(x, text);
        if (items < 0) {
            throw new IllegalStateException("the test's own text is refused: " + text + ": " + items);
        }
        x.clear();
        return x;
    }

    /** Whether something was asked and nothing was wrong. */
    boolean holds() {
        return asked > 0 && wrong == 0;
    }

    void end() {
        System.out.println(asked + " answers, " + wrong + " wrong");
        if (!holds()) {
            System.exit(1);
        }
    }
}
