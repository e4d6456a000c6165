import java.io.IOException;
import java.lang.reflect.Method;
import java.net.URL;
import java.net.URLClassLoader;
import java.nio.file.DirectoryStream;
import java.nio.file.Files;
import java.nio.file.Path;
import javax.tools.ToolProvider;

/**
 * What is answered where FAR and POP are as many as is told or more. No machine is known to us whose runs are
 * that long, so the class is compiled once more with a limit of 1000 in place of its own, and nothing else changed.
 */
public final class LimitTest {
    private static final String OWN = "LIMIT = 1000000000000000L;";
    private static final String LOWERED = "LIMIT = 1000L;";
    private static int wrong = 0;
    private final Object x;

    private LimitTest(Class<?> lowered) throws ReflectiveOperationException {
        x = lowered.getConstructor().newInstance();
    }

    private static Class<?> compileLowered(Path room) throws IOException, ReflectiveOperationException {
        String text = Files.readString(Path.of("src/main/java/StackRuns.java"));
        if (!text.contains(OWN)) {
            throw new IllegalStateException("the class does not say " + OWN);
        }
        Path source = Files.writeString(room.resolve("StackRuns.java"), text.replace(OWN, LOWERED));
        int failed = ToolProvider.getSystemJavaCompiler().run(null, null, null, "-d", room.toString(), source.toString());
        if (failed != 0) {
            throw new IllegalStateException("the lowered class does not compile");
        }
        URL[] place = {room.toUri().toURL()};
        return new URLClassLoader(place, ClassLoader.getPlatformClassLoader()).loadClass("StackRuns");
    }

    private static void clear(Path room) throws IOException {
        try (DirectoryStream<Path> files = Files.newDirectoryStream(room)) {
            for (Path file : files) {
                Files.delete(file);
            }
        }
        Files.delete(room);
    }

    private long call(String name, Object... arguments) throws ReflectiveOperationException {
        for (Method method : x.getClass().getMethods()) {
            if (method.getName().equals(name)) {
                return ((Number) method.invoke(x, arguments)).longValue();
            }
        }
        throw new NoSuchMethodException(name);
    }

    private void due(long want, String name, Object... arguments) throws ReflectiveOperationException {
        long got = call(name, arguments);
        if (got != want) {
            wrong++;
            System.out.println(name + " answered " + got + ", due is " + want);
        }
    }

    /** Sign k costs 31, 15, 7, 3, 1 steps to pop. */
    private void tellDoubling() throws ReflectiveOperationException {
        call("machine", 1, 5);
        for (int k = 0; k < 4; k++) {
            call("rule", 0, k, 0, k + 1, k + 1);
        }
        call("rule", 0, 4, 0, -1, -1);
        call("set");
        call("last", 0, 0, 0, true);
        for (int i = 0; i < 32; i++) {
            call("push", 0);
        }
    }

    private void checkFar() throws ReflectiveOperationException {
        tellDoubling();
        due(992, "far", 0);
        call("push", 2);
        due(999, "far", 0);
        due(0, "run", 0, 0);
        due(2, "step", 0);
        due(998, "far", 0);
        call("push", 4);
        due(999, "far", 0);
        call("push", 4);
        due(1000, "far", 0);
        due(StackRuns.NOT, "step", 0);
        due(StackRuns.NOT, "run", 0, 0);
        due(StackRuns.NOT, "run", 0, 2000);
        due(StackRuns.BAD, "run", 0, 2001);
        due(36, "count", 4);
        call("push", 0);
        due(1000, "far", 0);
        due(StackRuns.NOT, "step", 0);
        due(37, "count", 4);
        due(0, "endless");
        due(41, "high");
    }

    /** Sign 4 of control 0 pops a long row of control 1, whose sign 3 pops one of control 2. */
    private void checkPop() throws ReflectiveOperationException {
        int[][] rules = {{2, 0, 2, 1, 1}, {2, 1, 2, 2, 2}, {2, 2, 2, -1, -1}, {2, 3, 1, -1, -1}, {1, 3, 2, 0, 3},
            {1, 0, 1, 1, 1}, {1, 1, 1, 2, 2}, {1, 2, 1, 3, 3}, {1, 4, 0, -1, -1}, {0, 4, 1, 0, 4},
            {0, 0, 0, 1, 1}, {0, 1, 0, 2, 2}, {0, 2, 0, 3, 3}, {0, 3, 0, 4, 4}};
        call("machine", 3, 5);
        for (int[] r : rules) {
            call("rule", r[0], r[1], r[2], r[3], r[4]);
        }
        due(7, "pop", 2, 0, 2);
        due(79, "pop", 1, 0, 1);
        due(655, "pop", 0, 1, 0);
        due(1000, "pop", 0, 0, 0);
        due(StackRuns.NONE, "pop", 0, 0, 1);
        call("set");
        call("last", 0, 0, 0, true);
        call("set");
        call("last", 1, 0, 1, true);
        call("push", 0);
        due(1000, "far", 0);
        due(StackRuns.NOT, "step", 0);
        due(StackRuns.NONE, "far", 1);
        due(StackRuns.NOT, "step", 1);
        due(StackRuns.NOT, "run", 1, 1);
        call("stand", 0);
        call("push", 1);
        due(655, "far", 0);
        due(655, "run", 0, 2000);
    }

    public static void main(String[] args) throws IOException, ReflectiveOperationException {
        Path room = Files.createTempDirectory("lowered");
        Class<?> lowered = compileLowered(room);
        new LimitTest(lowered).checkFar();
        new LimitTest(lowered).checkPop();
        clear(room);
        System.out.println(wrong == 0 ? "all answers are as due" : wrong + " answers are not as due");
        if (wrong != 0) {
            System.exit(1);
        }
    }
}
