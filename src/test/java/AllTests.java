import java.io.IOException;
import java.lang.reflect.InvocationTargetException;
import java.lang.reflect.Method;
import java.lang.reflect.Modifier;
import java.nio.file.Files;
import java.nio.file.Path;
import java.util.Arrays;
import java.util.Comparator;

/** Runs each public method of the test classes as one test; writes how many passed and failed into a file. */
public final class AllTests {
    // far more than any test needs: a call that does not end fails its test instead of holding up the run
    private static final long LONGEST = 60_000;
    private static int passed = 0;
    private static int failed = 0;

    private AllTests() {
    }

    public static void main(String[] args) throws IOException, InterruptedException {
        runAll(new TextEdges());
        runAll(new BenchEdges());
        runAll(new DocketEdges());
        runAll(new OddsAndScarsEdges());
        runAll(new SheetEdges());
        runAll(new PromiseTests());
        runAll(new CrossTests());
        runAll(new LanguageTests());
        runAll(new ReadmeTests());
        System.out.println("tests of the project: " + passed + " passed, " + failed + " failed");
        if (args.length > 0) {
            Files.writeString(Path.of(args[0]), passed + " " + failed + "\n");
        }
        System.exit(failed == 0 ? 0 : 1);
    }

    private static void runAll(Object tests) throws InterruptedException {
        Method[] methods = tests.getClass().getDeclaredMethods();
        Arrays.sort(methods, Comparator.comparing(Method::getName));
        for (Method m : methods) {
            if (Modifier.isPublic(m.getModifiers()) && m.getParameterCount() == 0) {
                runOne(tests, m);
            }
        }
    }

    private static void runOne(Object tests, Method m) throws InterruptedException {
        Throwable[] thrown = {new AssertionError("it does not end")};
        Thread run = new Thread(() -> thrown[0] = whatIsThrown(tests, m));
        run.setDaemon(true);
        run.start();
        run.join(LONGEST);
        if (thrown[0] == null) {
            passed++;
            return;
        }
        failed++;
        System.out.println(tests.getClass().getName() + "." + m.getName() + " fails: " + thrown[0]);
        for (StackTraceElement place : thrown[0].getStackTrace()) {
            if (place.getClassName().equals(tests.getClass().getName())) {
                System.out.println("    line " + place.getLineNumber());
                break;
            }
        }
    }

    private static Throwable whatIsThrown(Object tests, Method m) {
        try {
            m.invoke(tests);
            return null;
        } catch (InvocationTargetException e) {
            return e.getCause();
        } catch (IllegalAccessException e) {
            return e;
        }
    }
}
