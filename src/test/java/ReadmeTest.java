import java.io.IOException;
import java.lang.reflect.Method;
import java.lang.reflect.Modifier;
import java.nio.file.Files;
import java.nio.file.Path;
import java.util.List;
import java.util.regex.Matcher;
import java.util.regex.Pattern;

/** What README.md says of the calls: its example is run, and each call of the face is told. */
public final class ReadmeTest {
    private static final Check CHECK = new Check();
    private static final Pattern CALL = Pattern.compile("bench\\.(\\w+)\\((.*)\\); *// (.*)");
    private static final Pattern TOLD_ANSWER = Pattern.compile("(\\w+).*");

    private static Method named(String name) {
        for (Method m : DiagramBench.class.getDeclaredMethods()) {
            if (Modifier.isPublic(m.getModifiers()) && m.getName().equals(name)) {
                return m;
            }
        }
        throw new IllegalStateException("no call " + name);
    }

    private static Object[] arguments(String written) {
        String[] words = written.split(", ");
        Object[] values = new Object[words.length];
        for (int i = 0; i < words.length; i++) {
            boolean isNumber = Character.isDigit(words[i].charAt(0));
            values[i] = isNumber ? (Object) Integer.valueOf(words[i]) : Boolean.valueOf(words[i]);
        }
        return values;
    }

    private static void example(List<String> lines) throws ReflectiveOperationException {
        DiagramBench bench = new DiagramBench();
        int answers = 0;
        for (String line : lines) {
            Matcher call = CALL.matcher(line);
            if (!call.matches()) {
                continue;
            }
            Object answer = named(call.group(1)).invoke(bench, arguments(call.group(2)));
            if (answer != null) {
                Matcher told = TOLD_ANSWER.matcher(call.group(3));
                CHECK.isTrue("'" + line + "' answers " + answer, told.matches() && told.group(1).equals(answer.toString()));
                answers++;
            }
        }
        CHECK.isTrue("the example asks something", answers > 0);
    }

    private static void eachCallIsTold(String text) {
        for (Method m : DiagramBench.class.getDeclaredMethods()) {
            if (Modifier.isPublic(m.getModifiers())) {
                CHECK.isTrue("the table has " + m.getName(), text.contains("| `" + m.getName() + "("));
            }
        }
    }

    public static void main(String[] args) throws IOException, ReflectiveOperationException {
        Path readme = Path.of("README.md");
        example(Files.readAllLines(readme));
        eachCallIsTold(Files.readString(readme));
        CHECK.end();
    }
}
