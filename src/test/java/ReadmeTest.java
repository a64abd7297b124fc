import java.io.IOException;
import java.lang.reflect.Method;
import java.lang.reflect.Modifier;
import java.nio.file.Files;
import java.nio.file.Path;
import java.util.regex.Matcher;
import java.util.regex.Pattern;

/** README.md tells the truth: its example answers what it says, and it names every call. */
public final class ReadmeTest extends Checks {
    private static final Pattern EXAMPLE = Pattern.compile("(?s)```java\nLogRaft raft = new LogRaft\\(\\);\n(.*?)```");
    private static final Pattern CALL = Pattern.compile("raft\\.(\\w+)\\((.*)\\);\\s+// (-?[0-9]+)\\b.*");

    public static void main(String[] arguments) throws IOException, ReflectiveOperationException {
        String text = Files.readString(Path.of("README.md"));
        where = "the example";
        example(text);
        where = "the table";
        table(text);
        endWith("the README is true");
    }

    private static void example(String text) throws ReflectiveOperationException {
        Matcher example = EXAMPLE.matcher(text);
        due("an example", example.find(), true);
        LogRaft raft = new LogRaft();
        for (String line : example.group(1).split("\n")) {
            Matcher call = CALL.matcher(line);
            due(line + " is a call", call.matches(), true);
            due(line, answerOf(raft, call.group(1), call.group(2)), Long.parseLong(call.group(3)));
        }
        due("read of the commands", readText(raft, "beat 3;shout 0 b;send 0"), 3);
        due("the text of the commands stands there", text.contains("`beat 3;shout 0 b;send 0`"), true);
        due("as one change", raft.account(12), 1);
    }

    private static long answerOf(LogRaft raft, String name, String arguments) throws ReflectiveOperationException {
        Method method = methodOf(name);
        String[] words = arguments.isEmpty() ? new String[0] : arguments.split(", ");
        Object[] values = new Object[words.length];
        for (int i = 0; i < words.length; i++) {
            values[i] = valueOf(words[i], method.getParameterTypes()[i]);
        }
        return ((Number) method.invoke(raft, values)).longValue();
    }

    private static Object valueOf(String word, Class<?> type) {
        if (type == boolean.class) {
            return word.equals("true");
        }
        if (type == char.class) {
            return word.charAt(1);
        }
        return Integer.parseInt(word);
    }

    private static Method methodOf(String name) throws NoSuchMethodException {
        for (Method method : LogRaft.class.getDeclaredMethods()) {
            if (Modifier.isPublic(method.getModifiers()) && method.getName().equals(name)) {
                return method;
            }
        }
        throw new NoSuchMethodException(name);
    }

    private static void table(String text) {
        for (Method method : LogRaft.class.getDeclaredMethods()) {
            if (Modifier.isPublic(method.getModifiers())) {
                boolean isNamed = Pattern.compile("(?m)^\\|.*`" + method.getName() + "`.*\\|$").matcher(text).find();
                due(method.getName() + " is named", isNamed, true);
            }
        }
    }
}
