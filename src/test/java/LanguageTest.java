import java.io.IOException;
import java.lang.management.ManagementFactory;
import java.lang.reflect.Constructor;
import java.lang.reflect.Field;
import java.lang.reflect.Method;
import java.lang.reflect.Modifier;
import java.nio.charset.StandardCharsets;
import java.nio.file.Files;
import java.nio.file.Path;
import java.util.Arrays;
import java.util.List;
import java.util.Random;
import java.util.TreeSet;
import java.util.regex.Matcher;
import java.util.regex.Pattern;

/** What of LANGUAGE.md can be seen in the file, in the class and in its runs. */
public final class LanguageTest {
    private static final Path SOURCE = Path.of("src/main/java/MothsShare.java");
    private static final List<String> FACE = List.of(
        "int bolt(int,int,int)", "int moth(int)", "int taste(int,int)", "int put(int,int)", "int appetite(int,int)",
        "int type(long,int)", "int clear()", "int read()", "int pleased(int)", "int cheapest(int)", "int number()",
        "int stands()", "int give(int)", "int undo()", "int now(int)", "int eaten(int)", "int drawn(int)",
        "int holes(int,int)", "int byWhom(int)", "int mouth(int,int)", "int cedar(int)", "int oracle(int,int)",
        "int tailor(int,int)", "long part(int)", "int image(int)", "int from(int)", "int status(int)",
        "int count(int)", "long digest()");
    private static final Due due = new Due();

    public static void main(String[] args) throws IOException {
        String source = Files.readString(SOURCE, StandardCharsets.UTF_8);
        due.about("the file");
        words(source);
        methodsAreShort(source);
        due.about("the class");
        face();
        members();
        due.about("the room");
        room();
        due.about("any arguments");
        hostile();
        due.end();
    }

    private static String withoutComments(String source) {
        return source.replaceAll("(?s)/\\*.*?\\*/", " ").replaceAll("//[^\n]*", " ");
    }

    private static void words(String source) {
        String code = withoutComments(source);
        String[] forbidden = {"\\bthrow\\b", "\\bthrows\\b", "\\btry\\b", "\\bcatch\\b", "\\bsynchronized\\b",
            "\\bassert\\b", "\\bimport\\b", "\\bpackage\\b", "->", "::", "\\w+Exact\\b", "\\bSystem\\.(?!arraycopy)",
            "\\bThread\\b", "\\bRandom\\b", "\\bObject\\b", "\\bMath\\.(?!max|min|abs|floorMod|floorDiv)\\w+",
            "\\bprotected\\b", "\\bjava\\.", "\\bvar\\b", "@\\w+", "\\bstatic\\s*\\{", "\\bwhile\\s*\\(true\\)",
            "\\bfor\\s*\\(;;", "[^\\x00-\\x7f]"};
        for (String f : forbidden) {
            Matcher m = Pattern.compile(f).matcher(code);
            due.is("find " + f, m.find() ? 1 : 0, 0);
        }
        due.is("find a byte above 127", source.chars().anyMatch(c -> c > 127) ? 1 : 0, 0);
    }

    private static void methodsAreShort(String source) {
        String[] lines = source.split("\n");
        int from = -1;
        for (int i = 0; i < lines.length; i++) {
            if (from < 0 && lines[i].matches(" {4}( {4})?[a-zA-Z].*\\) \\{")) {
                from = i;
            } else if (from >= 0 && lines[i].matches(" {4}( {4})?\\}")
                    && lines[i].indexOf('}') == lines[from].length() - lines[from].stripLeading().length()) {
                due.is("a method of " + (i - from) + " lines: " + lines[from].strip(), i - from > 60 ? 1 : 0, 0);
                from = -1;
            }
        }
    }

    private static void face() {
        TreeSet<String> found = new TreeSet<>();
        for (Method m : MothsShare.class.getDeclaredMethods()) {
            if (!Modifier.isPrivate(m.getModifiers())) {
                due.is(m + " is public alone", m.getModifiers(), Modifier.PUBLIC);
                found.add(m.getReturnType() + " " + m.getName() + Arrays.toString(m.getParameterTypes())
                    .replace("[", "(").replace("]", ")").replace(", ", ","));
            }
        }
        due.is("the face, found " + found, found.equals(new TreeSet<>(FACE)) ? 1 : 0, 1);
        due.is("constructors", MothsShare.class.getDeclaredConstructors().length, 1);
        for (Constructor<?> c : MothsShare.class.getDeclaredConstructors()) {
            due.is(c.toString(), c.getModifiers(), Modifier.PUBLIC);
        }
        due.is("the class", MothsShare.class.getModifiers(), Modifier.PUBLIC | Modifier.FINAL);
        TreeSet<String> open = new TreeSet<>();
        for (Field f : MothsShare.class.getDeclaredFields()) {
            if (!Modifier.isPrivate(f.getModifiers())) {
                open.add(f.getName());
            }
        }
        due.is("the constants, found " + open, open.equals(new TreeSet<>(List.of("NONE", "BAD", "NO", "FULL"))) ? 1 : 0, 1);
    }

    private static void members() {
        TreeSet<String> publicNames = new TreeSet<>();
        for (String f : FACE) {
            publicNames.add(f.substring(f.indexOf(' ') + 1, f.indexOf('(')));
        }
        Class<?>[] inside = MothsShare.class.getDeclaredClasses();
        due.is("twelve classes at most", inside.length <= 11 ? 1 : 0, 1);
        for (Class<?> c : inside) {
            due.is(c + " is static", Modifier.isStatic(c.getModifiers()) ? 1 : 0, 1);
            for (Method m : c.getDeclaredMethods()) {
                due.is(m + " bears a public one's name", publicNames.contains(m.getName()) ? 1 : 0, 0);
                due.is(m + " has seven parameters at most", m.getParameterCount() <= 7 ? 1 : 0, 1);
            }
            fields(c);
        }
        fields(MothsShare.class);
    }

    private static void fields(Class<?> c) {
        int own = 0;
        for (Field f : c.getDeclaredFields()) {
            boolean isStatic = Modifier.isStatic(f.getModifiers());
            own += isStatic ? 0 : 1;
            due.is(f + " is static and may change", isStatic && !Modifier.isFinal(f.getModifiers()) ? 1 : 0, 0);
        }
        due.is(c + " has twenty fields at most", own <= 20 ? 1 : 0, 1);
    }

    private static long callAll(MothsShare x, int i) {
        int k = i & 3;
        long sum = x.bolt(k, 3 - k, i % 100) + x.moth(i % 6) + x.taste(k, i % 10) + x.put(i % 3, i % 10)
            + x.appetite(k, i % 12) + x.type(0x656163682032203BL, 8) + x.read() + x.pleased(i % 12)
            + x.cheapest(k - 1) + x.number() + x.stands() + x.give(i % 13 - 1) + x.now(k) + x.eaten(k - 1)
            + x.drawn(i) + x.holes(i % 12, i % 9) + x.byWhom(k & 1) + x.mouth(i % 12, k) + x.cedar(i % 41)
            + x.oracle(30, i % 31) + x.tailor(i % 1000, 1 + i % 9) + x.part(k & 1) + x.image(k & 1);
        if ((i & 7) == 0) {
            sum += x.undo() + x.clear() + x.from(k & 1);
        }
        return sum + x.status(k) + x.count(k) + x.digest();
    }

    /** A call makes no object, but for the first one that keeps an image. */
    private static void room() {
        com.sun.management.ThreadMXBean threads = (com.sun.management.ThreadMXBean) ManagementFactory.getThreadMXBean();
        long id = Thread.currentThread().getId();
        MothsShare x = new MothsShare();
        long sum = 0;
        for (int i = 0; i < 64; i++) {
            sum += callAll(x, i);
        }
        threads.getThreadAllocatedBytes(id);
        long before = threads.getThreadAllocatedBytes(id);
        for (int i = 0; i < 2000; i++) {
            sum += callAll(x, i);
        }
        long bytes = threads.getThreadAllocatedBytes(id) - before;
        due.is("2000 times all calls take " + bytes + " bytes, sum " + sum, bytes < 20000 ? 1 : 0, 1);
    }

    private static int any(Random random, int v) {
        switch (v & 7) {
            case 0: return random.nextInt();
            case 1: return Integer.MAX_VALUE - random.nextInt(2);
            case 2: return Integer.MIN_VALUE + random.nextInt(2);
            default: return random.nextInt(16) - 2;
        }
    }

    /** No call throws or fails to end, long behind the 512th one too. */
    private static void hostile() {
        Random random = new Random(7);
        for (int run = 0; run < 20; run++) {
            MothsShare x = new MothsShare();
            for (int i = 0; i < 20000; i++) {
                hostileCall(x, random.nextInt(29), any(random, random.nextInt()), any(random, random.nextInt()),
                    any(random, random.nextInt()), random.nextLong());
            }
            due.is("BOLTS", x.count(0) <= 12 ? 1 : 0, 1);
        }
    }

    private static long hostileCall(MothsShare x, int which, int a, int b, int c, long v) {
        switch (which) {
            case 0: return x.bolt(a, b, c);
            case 1: return x.moth(a);
            case 2: return x.taste(a, b);
            case 3: return x.put(a, b);
            case 4: return x.appetite(a, b);
            case 5: return x.type(v, a);
            case 6: return x.clear();
            case 7: return (v & 31) == 0 ? x.read() : 0;
            case 8: return x.pleased(a);
            case 9: return x.cheapest(a);
            case 10: return x.number();
            case 11: return x.stands();
            case 12: return x.give(a);
            case 13: return x.undo();
            case 14: return x.now(a);
            case 15: return x.eaten(a);
            case 16: return x.drawn(a);
            case 17: return x.holes(a, b);
            case 18: return x.byWhom(a);
            case 19: return x.mouth(a, b);
            case 20: return x.cedar(a);
            case 21: return x.oracle(a, b);
            case 22: return x.tailor(a, b);
            case 23: return x.part(a);
            case 24: return x.image(a);
            case 25: return x.from(a);
            case 26: return x.status(a);
            case 27: return x.count(a);
            default: return x.digest();
        }
    }
}
