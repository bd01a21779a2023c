import java.io.IOException;
import java.lang.reflect.InvocationTargetException;
import java.lang.reflect.Method;
import java.lang.reflect.Modifier;
import java.nio.charset.StandardCharsets;
import java.nio.file.Files;
import java.nio.file.Path;
import java.util.HashMap;
import java.util.List;
import java.util.Map;
import java.util.regex.Matcher;
import java.util.regex.Pattern;

/** Makes the calls that stand in README.md, and compares the answers that stand behind them. */
public final class ReadmeTest {
    private static final Pattern MADE = Pattern.compile("MothsShare (\\w+) = new MothsShare\\(\\);");
    private static final Pattern CALL = Pattern.compile("(\\w+)\\.(\\w+)\\((.*?)\\); *// (-?\\d+)\\b.*");
    private static final Due due = new Due();

    public static void main(String[] args) throws IOException, ReflectiveOperationException {
        List<String> lines = Files.readAllLines(Path.of("README.md"), StandardCharsets.UTF_8);
        due.about("README.md");
        calls(lines);
        everyCallIsNamed(String.join("\n", lines));
        due.end();
    }

    private static void calls(List<String> lines) throws ReflectiveOperationException {
        Map<String, MothsShare> objects = new HashMap<>();
        boolean code = false;
        int called = 0;
        for (String line : lines) {
            if (line.startsWith("```")) {
                code = line.equals("```java");
            } else if (code && !line.isBlank()) {
                Matcher made = MADE.matcher(line);
                if (made.matches()) {
                    objects.put(made.group(1), new MothsShare());
                } else {
                    call(objects, line);
                    called++;
                }
            }
        }
        due.is("whether there are calls", called > 0 ? 1 : 0, 1);
    }

    private static void call(Map<String, MothsShare> objects, String line) throws ReflectiveOperationException {
        Matcher m = CALL.matcher(line);
        MothsShare x = m.matches() ? objects.get(m.group(1)) : null;
        if (x == null) {
            due.is("whether this line is a call with its answer: " + line, 0, 1);
            return;
        }
        String[] words = m.group(3).isEmpty() ? new String[0] : m.group(3).split(", *");
        long want = Long.parseLong(m.group(4));
        due.is(line.substring(0, m.end(3) + 1), answer(x, m.group(2), words), want);
    }

    private static long answer(MothsShare x, String name, String[] words) throws ReflectiveOperationException {
        for (Method method : MothsShare.class.getMethods()) {
            Class<?>[] types = method.getParameterTypes();
            if (method.getName().equals(name) && types.length == words.length) {
                Object[] numbers = new Object[types.length];
                for (int i = 0; i < types.length; i++) {
                    long v = number(words[i]);
                    numbers[i] = types[i] == long.class ? (Object) v : (Object) Math.toIntExact(v);
                }
                return ((Number) invoked(method, x, numbers)).longValue();
            }
        }
        throw new IllegalStateException("no such call: " + name);
    }

    private static Object invoked(Method method, MothsShare x, Object[] numbers) throws ReflectiveOperationException {
        try {
            return method.invoke(x, numbers);
        } catch (InvocationTargetException e) {
            throw new IllegalStateException(method.getName() + " threw", e.getCause());
        }
    }

    private static long number(String word) {
        return word.equals("MothsShare.NONE") ? MothsShare.NONE : Long.decode(word.replaceAll("L$", ""));
    }

    private static void everyCallIsNamed(String readme) {
        for (Method method : MothsShare.class.getDeclaredMethods()) {
            if (Modifier.isPublic(method.getModifiers())) {
                due.is("whether it names " + method.getName(), readme.contains("`" + method.getName() + "`") ? 1 : 0, 1);
            }
        }
    }
}
