import java.io.IOException;
import java.lang.reflect.Method;
import java.lang.reflect.Modifier;
import java.nio.file.Files;
import java.nio.file.Path;
import java.util.regex.Matcher;
import java.util.regex.Pattern;

/** README.md's examples are called line by line; each answers the number or name that stands behind it. */
public final class ReadmeTest {
    private static final Pattern CALL = Pattern.compile("x\\.(\\w+)\\((.*)\\);\\s*// (-?\\d+|[A-Z]+)(:.*)?");
    private static final String NEW = "StackRuns x = new StackRuns();";
    private static int wrong = 0;
    private static int calls = 0;
    private static StackRuns x = null;

    private static void due(String what, Object got, Object want) {
        if (!got.equals(want)) {
            wrong++;
            System.out.println("README.md: " + what + ": " + got + ", due is " + want);
        }
    }

    private static long call(String name, String arguments) throws ReflectiveOperationException {
        String[] texts = arguments.isEmpty() ? new String[0] : arguments.split(", ");
        Object[] values = new Object[texts.length];
        for (int i = 0; i < texts.length; i++) {
            boolean truth = texts[i].equals("true") || texts[i].equals("false");
            values[i] = truth ? (Object) Boolean.valueOf(texts[i]) : (Object) Integer.valueOf(texts[i]);
        }
        for (Method method : StackRuns.class.getMethods()) {
            if (method.getName().equals(name)) {
                return ((Number) method.invoke(x, values)).longValue();
            }
        }
        throw new NoSuchMethodException(name);
    }

    private static long number(String answer) throws ReflectiveOperationException {
        return Character.isLetter(answer.charAt(0))
            ? StackRuns.class.getField(answer).getInt(null) : Long.parseLong(answer);
    }

    private static void checkLine(String line) throws ReflectiveOperationException {
        if (line.equals(NEW)) {
            x = new StackRuns();
            return;
        }
        Matcher parts = CALL.matcher(line);
        boolean reads = x != null && parts.matches();
        due(line + " is a call with its answer", reads, true);
        if (reads) {
            calls++;
            due(line, call(parts.group(1), parts.group(2)), number(parts.group(3)));
        }
    }

    private static void checkExamples(String text) throws ReflectiveOperationException {
        boolean inside = false;
        for (String line : text.split("\n")) {
            if (line.startsWith("```")) {
                inside = line.equals("```java");
            } else if (inside) {
                checkLine(line);
            }
        }
        due("there are examples", calls > 0, true);
    }

    private static void checkTable(String text) {
        for (Method method : StackRuns.class.getDeclaredMethods()) {
            if (Modifier.isPublic(method.getModifiers())) {
                due(method.getName() + " is in the table", text.contains("\n| `" + method.getName() + "("), true);
            }
        }
    }

    private static void checkTests(String text) throws IOException {
        try (var files = Files.newDirectoryStream(Path.of("src/test/java"), "*.java")) {
            for (Path file : files) {
                String name = file.getFileName().toString().replace(".java", "");
                due(name + " is told", text.contains("\n- `" + name + "`:"), true);
            }
        }
    }

    public static void main(String[] args) throws IOException, ReflectiveOperationException {
        String text = Files.readString(Path.of("README.md"));
        checkExamples(text);
        checkTable(text);
        checkTests(text);
        System.out.println(calls + " calls");
        System.out.println(wrong == 0 ? "README.md says what is so" : wrong + " lines are not so");
        if (wrong != 0) {
            System.exit(1);
        }
    }
}
