import java.io.IOException;
import java.lang.reflect.InvocationTargetException;
import java.lang.reflect.Method;
import java.lang.reflect.Modifier;
import java.nio.file.Files;
import java.nio.file.Path;
import java.util.Arrays;
import java.util.Comparator;

/** Runs each public method of the test classes as one test; writes how many passed and failed into a file. */
public final class AllTests {
    private static int passed = 0;
    private static int failed = 0;

    private AllTests() {
    }

    public static void main(String[] args) throws IOException {
        runAll(new PromiseTests());
        runAll(new CrossTests());
        runAll(new LanguageTests());
        System.out.println("tests of the project: " + passed + " passed, " + failed + " failed");
        if (args.length > 0) {
            Files.writeString(Path.of(args[0]), passed + " " + failed + "\n");
        }
        System.exit(failed == 0 ? 0 : 1);
    }

    private static void runAll(Object tests) {
        Method[] methods = tests.getClass().getDeclaredMethods();
        Arrays.sort(methods, Comparator.comparing(Method::getName));
        for (Method m : methods) {
            if (Modifier.isPublic(m.getModifiers()) && m.getParameterCount() == 0) {
                runOne(tests, m);
            }
        }
    }

    private static void runOne(Object tests, Method m) {
        try {
            m.invoke(tests);
            passed++;
        } catch (InvocationTargetException e) {
            failed++;
            System.out.println(tests.getClass().getName() + "." + m.getName() + " fails: " + e.getCause());
            for (StackTraceElement place : e.getCause().getStackTrace()) {
                if (place.getClassName().equals(tests.getClass().getName())) {
                    System.out.println("    line " + place.getLineNumber());
                    break;
                }
            }
        } catch (IllegalAccessException e) {
            failed++;
            System.out.println(m.getName() + " can't be run: " + e);
        }
    }
}
