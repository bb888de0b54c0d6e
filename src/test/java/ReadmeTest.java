import java.io.IOException;
import java.lang.reflect.Method;
import java.lang.reflect.Modifier;
import java.nio.file.Files;
import java.nio.file.Path;
import java.util.List;
import java.util.Set;
import java.util.TreeSet;
import java.util.regex.Matcher;
import java.util.regex.Pattern;

/** README.md: its examples answer what they say, and its table has every call with its parameters. */
public final class ReadmeTest {
    private static final Due due = new Due("ReadmeTest");
    private static final Pattern NEW = Pattern.compile("StreamChain chain = new StreamChain\\((\\d+)\\);");
    private static final Pattern CALL = Pattern.compile("chain\\.(\\w+)\\(([-\\d, ]*)\\); *// (-?\\w+): .*");
    private static final Pattern GOES_ON = Pattern.compile(" +// .*");
    private static final Pattern ROW = Pattern.compile("\\| `(\\w+)\\(([\\w, ]*)\\)` \\|.*");

    private static StreamChain chain;
    private static int calls;

    public static void main(String[] args) throws IOException, ReflectiveOperationException {
        List<String> lines = Files.readAllLines(Path.of("README.md"));
        examples(lines);
        due.holds("it has examples", calls > 20);
        due.holds("its table has every call of the class, and no other", table(lines).equals(face()));
        due.end();
    }

    private static void examples(List<String> lines) throws ReflectiveOperationException {
        boolean isExample = false;
        for (String line : lines) {
            if (line.startsWith("```")) {
                isExample = line.equals("```java");
            } else if (isExample) {
                follow(line);
            }
        }
    }

    private static void follow(String line) throws ReflectiveOperationException {
        Matcher made = NEW.matcher(line);
        Matcher called = CALL.matcher(line);
        if (made.matches()) {
            chain = new StreamChain(Integer.parseInt(made.group(1)));
        } else if (called.matches()) {
            calls++;
            due.is(line, answer(called.group(1), called.group(2)), told(called.group(3)));
        } else {
            due.holds("this is read: " + line, GOES_ON.matcher(line).matches());
        }
    }

    private static int answer(String name, String told) throws ReflectiveOperationException {
        String[] texts = told.isEmpty() ? new String[0] : told.split(", ");
        Class<?>[] types = new Class<?>[texts.length];
        Object[] numbers = new Object[texts.length];
        for (int i = 0; i < texts.length; i++) {
            types[i] = int.class;
            numbers[i] = Integer.valueOf(texts[i]);
        }
        return (Integer) StreamChain.class.getMethod(name, types).invoke(chain, numbers);
    }

    private static int told(String answer) {
        switch (answer) {
            case "NONE": return StreamChain.NONE;
            case "BAD": return StreamChain.BAD;
            case "STATE": return StreamChain.STATE;
            case "FULL": return StreamChain.FULL;
            default: return Integer.parseInt(answer);
        }
    }

    private static Set<String> table(List<String> lines) {
        Set<String> calls = new TreeSet<>();
        for (String line : lines) {
            Matcher row = ROW.matcher(line);
            if (row.matches()) {
                int numbers = row.group(2).isEmpty() ? 0 : row.group(2).split(", ").length;
                calls.add(row.group(1) + " of " + numbers);
            }
        }
        return calls;
    }

    private static Set<String> face() {
        Set<String> calls = new TreeSet<>();
        for (Method method : StreamChain.class.getDeclaredMethods()) {
            if (Modifier.isPublic(method.getModifiers())) {
                calls.add(method.getName() + " of " + method.getParameterCount());
            }
        }
        return calls;
    }
}
