import com.sun.source.tree.CompilationUnitTree;
import com.sun.source.tree.ExpressionTree;
import com.sun.source.tree.IdentifierTree;
import com.sun.source.tree.MethodInvocationTree;
import com.sun.source.tree.MethodTree;
import com.sun.source.tree.NewClassTree;
import com.sun.source.tree.Tree;
import com.sun.source.util.JavacTask;
import com.sun.source.util.TreePath;
import com.sun.source.util.TreePathScanner;
import com.sun.source.util.Trees;
import java.io.File;
import java.io.IOException;
import java.util.ArrayList;
import java.util.List;
import java.util.Map;
import java.util.Set;
import java.util.TreeMap;
import java.util.TreeSet;
import javax.lang.model.element.Element;
import javax.lang.model.element.ElementKind;
import javax.lang.model.element.Modifier;
import javax.tools.JavaCompiler;
import javax.tools.StandardJavaFileManager;
import javax.tools.ToolProvider;

/** The program as the compiler reads it: who calls whom, who recurs, what constructors hand out. */
final class Program {
    /** Of each method and constructor, as Class.name(types), what it calls, the library's too. */
    final Map<String, Set<String>> calls = new TreeMap<>();
    /** Methods that are private and static: these alone may call themselves. */
    final Set<String> privateStatic = new TreeSet<>();
    /** What stands among the arguments in a constructor and is the object that it makes, or a part of it. */
    final List<String> handedOut = new ArrayList<>();
    private final Trees trees;

    private Program(Trees trees) {
        this.trees = trees;
    }

    static Program read(String file) throws IOException {
        JavaCompiler compiler = ToolProvider.getSystemJavaCompiler();
        try (StandardJavaFileManager files = compiler.getStandardFileManager(null, null, null)) {
            JavacTask task = (JavacTask) compiler.getTask(null, files, null, List.of("-proc:none"), null,
                    files.getJavaFileObjects(new File(file)));
            Program program = new Program(Trees.instance(task));
            Iterable<? extends CompilationUnitTree> units = task.parse();
            task.analyze();
            for (CompilationUnitTree unit : units) {
                program.new Reader().scan(unit, null);
            }
            return program;
        }
    }

    /** How many calls stand open at once, at most, from a method on, but for those that recur. */
    int depth(String method, Set<String> open) {
        int deepest = 0;
        for (String called : calls.getOrDefault(method, Set.of())) {
            if (!called.equals(method) && !open.contains(called)) {
                Set<String> more = new TreeSet<>(open);
                more.add(method);
                deepest = Math.max(deepest, depth(called, more));
            }
        }
        return deepest + 1;
    }

    /** Whether a chain of calls leads from a method back to it, by others than itself. */
    boolean recursByOthers(String method) {
        Set<String> met = new TreeSet<>();
        List<String> next = new ArrayList<>(calls.getOrDefault(method, Set.of()));
        next.remove(method);
        while (!next.isEmpty()) {
            String called = next.remove(next.size() - 1);
            if (called.equals(method)) {
                return true;
            }
            if (met.add(called)) {
                next.addAll(calls.getOrDefault(called, Set.of()));
            }
        }
        return false;
    }

    private static String nameOf(Element method) {
        return method.getEnclosingElement() + "." + method;
    }

    private final class Reader extends TreePathScanner<Void, Void> {
        private String method = "";
        private boolean making;

        @Override
        public Void visitMethod(MethodTree tree, Void none) {
            Element element = trees.getElement(getCurrentPath());
            method = nameOf(element);
            making = element.getKind() == ElementKind.CONSTRUCTOR;
            calls.put(method, new TreeSet<>());
            if (element.getModifiers().containsAll(Set.of(Modifier.PRIVATE, Modifier.STATIC))) {
                privateStatic.add(method);
            }
            return super.visitMethod(tree, none);
        }

        @Override
        public Void visitMethodInvocation(MethodInvocationTree tree, Void none) {
            note(tree.getArguments());
            return super.visitMethodInvocation(tree, none);
        }

        @Override
        public Void visitNewClass(NewClassTree tree, Void none) {
            note(tree.getArguments());
            return super.visitNewClass(tree, none);
        }

        private void note(List<? extends ExpressionTree> arguments) {
            Element called = trees.getElement(getCurrentPath());
            if (!nameOf(called).equals("java.lang.Object.Object()")) {
                calls.get(method).add(nameOf(called));
            }
            for (ExpressionTree argument : arguments) {
                TreePath path = new TreePath(getCurrentPath(), argument);
                Element handed = trees.getElement(path);
                boolean own = handed != null && handed.getKind() == ElementKind.FIELD
                        && !handed.getModifiers().contains(Modifier.STATIC);
                boolean itself = argument.getKind() == Tree.Kind.IDENTIFIER
                        && ((IdentifierTree) argument).getName().contentEquals("this");
                if (making && (own || itself)) {
                    handedOut.add(method + " hands out " + argument);
                }
            }
        }
    }
}
