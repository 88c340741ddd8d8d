import java.io.IOException;
import java.lang.reflect.Method;
import java.nio.file.Files;
import java.nio.file.Path;
import java.util.regex.Matcher;
import java.util.regex.Pattern;

/** Makes the calls of the README's examples and compares the answers that it tells for them. */
public final class ReadmeTest {
    private static final Path README = Path.of("README.md");
    private static final String NEW_STORE = "RevisionStore store = new RevisionStore();";
    private static final Pattern CALL =
        Pattern.compile("store\\.(\\w+)\\((.*)\\); *// ([-\\w]+)(:.*)?");
    private static final String CODE_START = "```java";
    private static final String CODE_END = "```";

    private static final Check CHECK = new Check();

    public static void main(String[] args) throws IOException, ReflectiveOperationException {
        RevisionStore store = null;
        boolean code = false;
        for (String line : Files.readAllLines(README)) {
            if (line.equals(CODE_START) || line.equals(CODE_END)) {
                code = line.equals(CODE_START);
            } else if (code && line.equals(NEW_STORE)) {
                store = new RevisionStore();
            } else if (code) {
                compare(store, line);
            }
        }
        CHECK.end();
    }

    private static void compare(RevisionStore store, String line)
            throws ReflectiveOperationException {
        Matcher call = CALL.matcher(line);
        CHECK.yes("this line is a call with its answer: " + line, call.matches());
        if (call.matches()) {
            long got = answer(store, call.group(1), call.group(2).split(", "));
            CHECK.due(line, got, valueOf(call.group(3)));
        }
    }

    private static long answer(RevisionStore store, String name, String[] words)
            throws ReflectiveOperationException {
        Method method = methodOf(name);
        Class<?>[] types = method.getParameterTypes();
        CHECK.due("arguments of " + name, words.length, types.length);
        Object[] arguments = new Object[types.length];
        for (int i = 0; i < types.length; i++) {
            arguments[i] = argument(types[i], valueOf(words[i]));
        }
        Object answer = method.invoke(store, arguments);
        return answer instanceof Boolean truth ? (truth ? 1 : 0) : ((Number) answer).longValue();
    }

    private static Method methodOf(String name) throws NoSuchMethodException {
        for (Method method : RevisionStore.class.getMethods()) {
            if (method.getName().equals(name)) {
                return method;
            }
        }
        throw new NoSuchMethodException(name);
    }

    private static Object argument(Class<?> type, long value) {
        if (type == boolean.class) {
            return value == 1;
        }
        return type == long.class ? (Object) value : (Object) (int) value;
    }

    /** Texts stand in the README by Horner's rule, so the operators go from left to right. */
    private static long valueOf(String words) throws ReflectiveOperationException {
        String[] parts = words.replaceAll("[()]", "").split(" ");
        long value = simpleValueOf(parts[0]);
        for (int i = 1; i + 1 < parts.length; i += 2) {
            long next = simpleValueOf(parts[i + 1]);
            value = parts[i].equals("*") ? value * next : value + next;
        }
        return value;
    }

    private static long simpleValueOf(String word) throws ReflectiveOperationException {
        if (word.equals("true") || word.equals("false")) {
            return word.equals("true") ? 1 : 0;
        }
        if (word.matches("-?\\d+")) {
            return Long.parseLong(word);
        }
        String constant = word.replaceFirst("RevisionStore\\.", "");
        return RevisionStore.class.getField(constant).getInt(null);
    }
}
