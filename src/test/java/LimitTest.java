import java.io.IOException;
import java.lang.reflect.Method;
import java.net.URL;
import java.net.URLClassLoader;
import java.nio.file.DirectoryStream;
import java.nio.file.Files;
import java.nio.file.Path;
import javax.tools.ToolProvider;

/**
 * What is answered where FAR and POP are as many as is told or more. No machine is known to us whose runs are as long
 * as 1000000000000000 steps, so the class is compiled once more with a lower limit in place of its own, and nothing
 * else changed. Each test bears the words of its sentence above it.
 */
public final class LimitTest {
    private static final String OWN = "LIMIT = 1000000000000000L;";
    private static final int NONE = StackRuns.NONE, BAD = StackRuns.BAD, NOT = StackRuns.NOT;
    private static int wrong = 0;
    private static Path room;
    private final String name;
    private final Object x;

    private LimitTest(String name, long limit) throws IOException, ReflectiveOperationException {
        this.name = name + ", limit " + limit;
        x = lowered(limit).getConstructor().newInstance();
    }

    private static Class<?> lowered(long limit) throws IOException, ReflectiveOperationException {
        Path own = room.resolve("limit" + limit);
        if (!Files.exists(own)) {
            compile(Files.createDirectory(own), limit);
        }
        URL[] place = {own.toUri().toURL()};
        return new URLClassLoader(place, ClassLoader.getPlatformClassLoader()).loadClass("StackRuns");
    }

    private static void compile(Path own, long limit) throws IOException {
        String text = Files.readString(Path.of("src/main/java/StackRuns.java"));
        if (!text.contains(OWN)) {
            throw new IllegalStateException("the class does not say " + OWN);
        }
        Path source = Files.writeString(own.resolve("StackRuns.java"), text.replace(OWN, "LIMIT = " + limit + "L;"));
        int failed = ToolProvider.getSystemJavaCompiler().run(null, null, null, "-d", own.toString(), source.toString());
        if (failed != 0) {
            throw new IllegalStateException("the lowered class does not compile");
        }
    }

    private static void clear(Path path) throws IOException {
        if (Files.isDirectory(path)) {
            try (DirectoryStream<Path> inside = Files.newDirectoryStream(path)) {
                for (Path file : inside) {
                    clear(file);
                }
            }
        }
        Files.delete(path);
    }

    private long call(String method, Object... arguments) throws ReflectiveOperationException {
        for (Method found : x.getClass().getMethods()) {
            if (found.getName().equals(method)) {
                return ((Number) found.invoke(x, arguments)).longValue();
            }
        }
        throw new NoSuchMethodException(method);
    }

    private void due(long want, String method, Object... arguments) throws ReflectiveOperationException {
        long got = call(method, arguments);
        if (got != want) {
            wrong++;
            System.out.println(name + ": " + method + " answered " + got + ", due is " + want);
        }
    }

    /** Signs 0 to 4 cost 31, 15, 7, 3, 1 steps to pop; set 0 is the empty stack, set 1 is never come to. */
    private static LimitTest doubling(String name, long limit) throws IOException, ReflectiveOperationException {
        LimitTest test = new LimitTest(name, limit);
        test.call("machine", 1, 5);
        for (int k = 0; k < 4; k++) {
            test.call("rule", 0, k, 0, k + 1, k + 1);
        }
        test.call("rule", 0, 4, 0, -1, -1);
        test.call("set");
        test.call("last", 0, 0, 0, true);
        test.call("set");
        return test;
    }

    private void pushAll(int s, int times) throws ReflectiveOperationException {
        for (int i = 0; i < times; i++) {
            call("push", s);
        }
    }

    /** "it is told up to 1000000000000000 (that: as many or more)" */
    private static void terms_farIsToldUpToTheLimit() throws IOException, ReflectiveOperationException {
        for (long limit = 30; limit <= 32; limit++) {
            LimitTest x = doubling("far of 31 steps", limit);
            x.call("push", 0);
            x.due(Math.min(31, limit), "far", 0);
        }
        LimitTest x = doubling("far of 999 steps and more", 1000);
        x.pushAll(0, 32);
        x.call("push", 2);
        x.due(999, "far", 0);
        x.call("push", 4);
        x.due(1000, "far", 0);
        x.call("push", 4);
        x.due(1000, "far", 0);
        x.pushAll(0, 25);
        x.due(60, "count", 4);
        x.due(1000, "far", 0);
        x.due(NONE, "far", 1);
    }

    /** "POP of p, s, q: .. told likewise" */
    private static void terms_popIsToldUpToTheLimit() throws IOException, ReflectiveOperationException {
        for (long limit = 30; limit <= 32; limit++) {
            LimitTest x = doubling("pop of 31 steps", limit);
            x.due(Math.min(31, limit), "pop", 0, 0, 0);
            x.due(15, "pop", 0, 1, 0);
        }
        LimitTest x = chained("pops of 655 steps and more", 1000);
        x.due(7, "pop", 2, 0, 2);
        x.due(79, "pop", 1, 0, 1);
        x.due(655, "pop", 0, 1, 0);
        x.due(1000, "pop", 0, 0, 0);
        x.due(NONE, "pop", 0, 0, 1);
    }

    /** Sign 4 of control 0 pops a long row of control 1, whose sign 3 pops one of control 2. */
    private static LimitTest chained(String name, long limit) throws IOException, ReflectiveOperationException {
        int[][] rules = {{2, 0, 2, 1, 1}, {2, 1, 2, 2, 2}, {2, 2, 2, -1, -1}, {2, 3, 1, -1, -1}, {1, 3, 2, 0, 3},
            {1, 0, 1, 1, 1}, {1, 1, 1, 2, 2}, {1, 2, 1, 3, 3}, {1, 4, 0, -1, -1}, {0, 4, 1, 0, 4},
            {0, 0, 0, 1, 1}, {0, 1, 0, 2, 2}, {0, 2, 0, 3, 3}, {0, 3, 0, 4, 4}};
        LimitTest test = new LimitTest(name, limit);
        test.call("machine", 3, 5);
        for (int[] r : rules) {
            test.call("rule", r[0], r[1], r[2], r[3], r[4]);
        }
        for (int q = 0; q < 2; q++) {
            test.call("set");
            test.call("last", q, 0, q, true);
        }
        return test;
    }

    /** "NOT (.. FAR is as many as is told or more)", of step; and that nothing changes. */
    private static void promise15_notAtTheLimit() throws IOException, ReflectiveOperationException {
        for (long limit = 30; limit <= 32; limit++) {
            LimitTest x = doubling("step of 31", limit);
            x.call("push", 0);
            boolean told = limit == 32;
            x.due(told ? 0 : NOT, "step", 0);
            x.due(told ? 2 : 1, "count", 4);
            x.due(told ? 1 : 0, "at", 0);
            x.due(Math.min(told ? 30 : 31, limit), "far", 0);
        }
        LimitTest x = chained("step of one sign", 1000);
        x.call("push", 0);
        x.due(1000, "far", 0);
        x.due(NOT, "step", 0);
        x.due(NOT, "step", 1);
        x.due(1, "count", 4);
    }

    /** "NOT: there is no RUN, or FAR is as many as is told or more"; "up to k such STEPS", also up to none. */
    private static void promise16_notAtTheLimit() throws IOException, ReflectiveOperationException {
        for (long limit = 30; limit <= 32; limit++) {
            LimitTest x = doubling("run of 31", limit);
            x.call("push", 0);
            boolean told = limit == 32;
            x.due(BAD, "run", 0, 2001);
            x.due(NOT, "run", 1, 2000);
            x.due(told ? 0 : NOT, "run", 0, 0);
            x.due(told ? 31 : NOT, "run", 0, 2000);
            x.due(told ? 0 : 1, "count", 4);
        }
        LimitTest x = chained("run of 655", 1000);
        x.call("push", 1);
        x.due(655, "far", 0);
        x.due(655, "run", 0, 2000);
        x.due(0, "count", 4);
    }

    /** "NOT (.. FAR is as many as is told or more), FULL": the first that fits, at a stack without room. */
    private static void terms_notAtTheLimitComesBeforeFull() throws IOException, ReflectiveOperationException {
        LimitTest x = doubling("sixty signs", 1000);
        x.pushAll(0, 60);
        x.due(NOT, "step", 0);
        x.due(NOT, "run", 0, 2000);
        LimitTest y = doubling("sixty signs", 2000);
        y.pushAll(0, 60);
        y.due(1860, "far", 0);
        y.due(StackRuns.FULL, "step", 0);
        y.due(0, "run", 0, 2000);
    }

    /** ENDLESS and HIGH do not ask how many steps there are. */
    private static void terms_endlessAndHighBeyondTheLimit() throws IOException, ReflectiveOperationException {
        LimitTest x = doubling("sixty signs", 30);
        x.pushAll(0, 60);
        x.due(0, "endless");
        x.due(64, "high");
        x.call("rule", 0, 4, 0, 0, -1);
        x.due(1, "endless");
        x.due(NONE, "high");
    }

    public static void main(String[] args) throws IOException, ReflectiveOperationException {
        room = Files.createTempDirectory("lowered");
        try {
            terms_farIsToldUpToTheLimit();
            terms_popIsToldUpToTheLimit();
            promise15_notAtTheLimit();
            promise16_notAtTheLimit();
            terms_notAtTheLimitComesBeforeFull();
            terms_endlessAndHighBeyondTheLimit();
        } finally {
            clear(room);
        }
        System.out.println(wrong == 0 ? "all answers are as due" : wrong + " answers are not as due");
        if (wrong != 0) {
            System.exit(1);
        }
    }
}
