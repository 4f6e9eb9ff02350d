import java.io.IOException;
import java.lang.reflect.Method;
import java.lang.reflect.Modifier;
import java.nio.file.Files;
import java.nio.file.Path;
import java.util.Arrays;
import java.util.List;
import java.util.regex.Matcher;
import java.util.regex.Pattern;
import java.util.stream.Collectors;

/** What README.md says of the use of the class and of its tests. */
public final class ReadmeTests extends Tests {
    private static final Pattern TEXT = Pattern.compile("for \\(char c : \"([^\"]*)\"\\.toCharArray\\(\\)\\) \\{");
    private static final Pattern CALL = Pattern.compile("x\\.(\\w+)\\(([^)]*)\\); +// (-?\\d+)(:.*)?");

    private static String readme() throws IOException {
        return Files.readString(Path.of("README.md"));
    }

    /** Each line of use answers what stands behind it. */
    public void linesOfUseAnswerAsTheyTell() throws Exception {
        JudgeFirst x = new JudgeFirst();
        int calls = 0;
        for (String line : readme().split("\n")) {
            Matcher text = TEXT.matcher(line);
            if (text.matches()) {
                Due.feed(x, text.group(1));
            }
            Matcher call = CALL.matcher(line);
            if (call.matches()) {
                calls++;
                long answer = answer(x, call.group(1), call.group(2));
                if (answer != Long.parseLong(call.group(3))) {
                    throw new AssertionError("'" + line + "' answers " + answer);
                }
            } else if (line.startsWith("x.")) {
                throw new AssertionError("'" + line + "' does not tell its answer");
            }
        }
        due(15, calls);
    }

    private static long answer(JudgeFirst x, String name, String numbers) throws Exception {
        Object[] given = Arrays.stream(numbers.split(", ")).filter(n -> !n.isEmpty()).map(Integer::valueOf).toArray();
        for (Method m : JudgeFirst.class.getMethods()) {
            if (m.getName().equals(name) && m.getParameterCount() == given.length) {
                return ((Number) m.invoke(x, given)).longValue();
            }
        }
        throw new AssertionError("there is no " + name + " of " + given.length);
    }

    public void eachCallIsNamed() throws IOException {
        String readme = readme();
        for (Method m : JudgeFirst.class.getDeclaredMethods()) {
            if (Modifier.isPublic(m.getModifiers()) && !readme.contains("`" + m.getName() + "`")) {
                throw new AssertionError(m.getName() + " is not named");
            }
        }
    }

    public void eachFileOfTestsIsNamed() throws IOException {
        String table = Arrays.stream(readme().split("\n")).filter(l -> l.startsWith("| ")).collect(Collectors.joining("\n"));
        List<String> names;
        try (var files = Files.list(Path.of("src/test/java"))) {
            names = files.map(f -> f.getFileName().toString().replace(".java", "")).sorted().toList();
        }
        for (String name : names) {
            if (!Pattern.compile("\\b" + name + "\\b").matcher(table).find()) {
                throw new AssertionError(name + " is not named");
            }
        }
    }
}
