import java.io.IOException;
import java.lang.reflect.Member;
import java.lang.reflect.Modifier;
import java.nio.file.Files;
import java.nio.file.Path;
import java.util.Arrays;
import java.util.Set;
import java.util.TreeSet;
import java.util.regex.Matcher;
import java.util.regex.Pattern;

/** The rules of ../shared/LANGUAGE.md, as far as a test can see them. */
public final class LanguageTests extends Tests {
    private static final String FACE = "BAD STATE FULL NONE feed end text fault rule judge suit tenth alter amend crime"
        + " can give appeal days docket hears best deter order spare hopeless mean luck see forget kinds terms ask drift"
        + " keep back sheet lay read torn count";

    private static String source() throws IOException {
        String whole = Files.readString(Path.of("src/main/java/JudgeFirst.java"));
        return whole.replaceAll("(?s)/\\*.*?\\*/", "").replaceAll("//[^\n]*", "");
    }

    public void rule01Face() {
        Set<String> face = new TreeSet<>(Arrays.asList(FACE.split(" ")));
        Set<String> seen = new TreeSet<>();
        addVisible(seen, JudgeFirst.class.getDeclaredMethods());
        addVisible(seen, JudgeFirst.class.getDeclaredFields());
        due(1, face.equals(seen) ? 1 : 0);
        due(1, JudgeFirst.class.getConstructors().length);
        due(1, JudgeFirst.class.getDeclaredConstructors().length);
        due(Modifier.PUBLIC | Modifier.FINAL, JudgeFirst.class.getModifiers());
    }

    private static void addVisible(Set<String> seen, Member[] members) {
        for (Member m : members) {
            if (!Modifier.isPrivate(m.getModifiers()) && !m.isSynthetic()) {
                seen.add(m.getName());
            }
        }
    }

    public void rule01NoOwnMethodBearsAPublicName() {
        Set<String> face = new TreeSet<>(Arrays.asList(FACE.split(" ")));
        for (Class<?> inside : JudgeFirst.class.getDeclaredClasses()) {
            Arrays.stream(inside.getDeclaredMethods()).filter(m -> face.contains(m.getName())).forEach(m -> {
                throw new AssertionError(inside.getName() + "." + m.getName());
            });
        }
    }

    public void rule02To06NoForbiddenWord() throws IOException {
        Matcher m = Pattern.compile("\\b(throw|throws|try|catch|synchronized|assert|import|package|protected|goto|native"
            + "|volatile|transient|System|Object|Exception)\\b|->|::|@|\\bexact|Exact\\b").matcher(source());
        if (m.find()) {
            throw new AssertionError("there is " + m.group());
        }
    }

    public void rule05StaticFieldsAreConstants() {
        for (Class<?> inside : JudgeFirst.class.getDeclaredClasses()) {
            constants(inside);
            due(1, Modifier.isStatic(inside.getModifiers()) ? 1 : 0);
        }
        constants(JudgeFirst.class);
    }

    private static void constants(Class<?> whose) {
        Arrays.stream(whose.getDeclaredFields()).filter(f -> Modifier.isStatic(f.getModifiers())).forEach(f -> {
            due(1, Modifier.isFinal(f.getModifiers()) && f.getType() == int.class ? 1 : 0);
        });
    }

    public void rule11Sizes() throws IOException {
        due(1, JudgeFirst.class.getDeclaredClasses().length + 1 <= 12 ? 1 : 0);
        for (Class<?> inside : JudgeFirst.class.getDeclaredClasses()) {
            long many = Arrays.stream(inside.getDeclaredFields()).filter(f -> !Modifier.isStatic(f.getModifiers())).count();
            due(1, many <= 20 ? 1 : 0);
            Arrays.stream(inside.getDeclaredMethods()).forEach(m -> due(1, m.getParameterCount() <= 7 ? 1 : 0));
        }
        Arrays.stream(JudgeFirst.class.getDeclaredMethods()).forEach(m -> due(1, m.getParameterCount() <= 7 ? 1 : 0));
    }

    public void rule11ShortMethods() throws IOException {
        String[] lines = source().split("\n");
        Pattern head = Pattern.compile("^((?: {4}){1,2})(?!if|for|while|switch)\\w[^;=]*\\) \\{$");
        int methods = 0;
        for (int i = 0; i < lines.length; i++) {
            Matcher m = head.matcher(lines[i]);
            if (m.matches()) {
                int end = i;
                while (!lines[end].equals(m.group(1) + "}")) {
                    end++;
                }
                methods++;
                due(1, end - i < 60 ? 1 : 0);
            }
        }
        due(1, methods > 100 ? 1 : 0);
    }

    private static Program program() throws IOException {
        return Program.read("src/main/java/JudgeFirst.java");
    }

    /** The library's functions count too. */
    public void rule11CallsGoAtMostEightDeep() throws IOException {
        Program program = program();
        due(1, program.calls.size() > 100 ? 1 : 0);
        for (String method : program.calls.keySet()) {
            int depth = program.depth(method, Set.of());
            if (depth > 8) {
                throw new AssertionError(method + " goes " + depth + " deep");
            }
        }
    }

    public void rule08OnlyPrivateStaticMethodsRecur() throws IOException {
        Program program = program();
        program.calls.forEach((method, called) -> {
            if (called.contains(method) && !program.privateStatic.contains(method) || program.recursByOthers(method)) {
                throw new AssertionError(method + " recurs");
            }
        });
    }

    public void rule04NoOtherLibrary() throws IOException {
        Set<String> library = new TreeSet<>();
        program().calls.values().forEach(library::addAll);
        library.removeIf(called -> called.startsWith("JudgeFirst"));
        library.removeAll(Set.of("java.lang.Integer.bitCount(int)", "java.lang.Math.max(int,int)",
            "java.lang.Math.min(int,int)", "java.lang.String.charAt(int)", "java.lang.String.length()"));
        for (String other : library) {
            throw new AssertionError("the program calls " + other);
        }
    }

    public void rule12ConstructorsHandOutNothing() throws IOException {
        for (String handedOut : program().handedOut) {
            throw new AssertionError(handedOut);
        }
    }

    public void rule04SignsOf1To127() throws IOException {
        due(1, Files.readString(Path.of("src/main/java/JudgeFirst.java")).chars().allMatch(c -> c >= 1 && c <= 127) ? 1 : 0);
    }

    /** Only constructors make anything: a call makes no object, so a run of any length fits its room. */
    public void rule12ObjectsAreMadeInConstructorsAlone() throws IOException {
        String method = "";
        Pattern head = Pattern.compile("^ +(?:public |private |static |final )*(?:[\\w\\[\\]]+ )?(\\w+)\\([^)]*\\) \\{$");
        for (String line : source().split("\n")) {
            Matcher m = head.matcher(line);
            if (m.matches() && !m.group(1).matches("if|for|while|switch")) {
                method = m.group(1);
            }
            if (line.contains("new ") && !Character.isUpperCase(method.charAt(0))) {
                throw new AssertionError(method + " makes an object: " + line.trim());
            }
        }
    }
}
