import com.sun.source.tree.BlockTree;
import com.sun.source.tree.ClassTree;
import com.sun.source.tree.CompilationUnitTree;
import com.sun.source.tree.MethodInvocationTree;
import com.sun.source.tree.MethodTree;
import com.sun.source.tree.NewClassTree;
import com.sun.source.tree.Tree;
import com.sun.source.tree.VariableTree;
import com.sun.source.util.JavacTask;
import com.sun.source.util.TreePath;
import com.sun.source.util.TreePathScanner;
import com.sun.source.util.Trees;
import java.io.IOException;
import java.nio.file.Path;
import java.util.HashMap;
import java.util.LinkedHashMap;
import java.util.Map;
import java.util.Set;
import java.util.TreeSet;
import javax.lang.model.element.Element;
import javax.lang.model.element.Modifier;
import javax.tools.JavaCompiler;
import javax.tools.StandardJavaFileManager;
import javax.tools.ToolProvider;

/** The rules of LANGUAGE.md that need the source to be understood: who calls what, and how much there is of it. */
public final class ShapeTest {
    private static final String SOURCE = "src/main/java/TrueSheets.java";
    private static final int MOST_CLASSES = 12;
    private static final int MOST_FIELDS = 20;
    private static final int MOST_PARAMETERS = 7;
    private static final int DEEPEST_CALL = 8;
    // far above every depth that is allowed, so that a recursion ends too
    private static final int GIVEN_UP = 50;

    private static final Set<String> LIBRARY = Set.of(
        "java.lang.String.length()", "java.lang.String.charAt(int)",
        "java.lang.Integer.bitCount(int)", "java.lang.Math.max(int,int)", "java.lang.Math.min(int,int)",
        "java.lang.System.arraycopy(java.lang.Object,int,java.lang.Object,int,int)",
        "java.lang.IllegalStateException.IllegalStateException(java.lang.String)",
        "java.lang.IllegalArgumentException.IllegalArgumentException(java.lang.String)",
        "java.lang.IndexOutOfBoundsException.IndexOutOfBoundsException(java.lang.String)");

    private final Map<String, Set<String>> calls = new LinkedHashMap<>();
    private final Map<String, Integer> depths = new HashMap<>();
    private int classes = 0;

    public static void main(String[] args) throws IOException {
        ShapeTest test = new ShapeTest();
        test.readSource();
        Run.check("the file has " + test.classes + " classes", test.classes <= MOST_CLASSES, true);
        Run.check("there are methods", test.calls.size() > 100, true);
        test.lookAtCalls();
        Run.end("ShapeTest");
    }

    private void readSource() throws IOException {
        JavaCompiler compiler = ToolProvider.getSystemJavaCompiler();
        try (StandardJavaFileManager files = compiler.getStandardFileManager(null, null, null)) {
            JavacTask task = (JavacTask) compiler.getTask(null, files, null, null, null,
                files.getJavaFileObjects(Path.of(SOURCE)));
            CompilationUnitTree unit = task.parse().iterator().next();
            task.analyze();
            Run.check("imports", unit.getImports().size(), 0);
            new Reader(Trees.instance(task)).scan(new TreePath(unit), null);
        }
    }

    private void lookAtCalls() {
        for (Map.Entry<String, Set<String>> method : calls.entrySet()) {
            for (String called : method.getValue()) {
                boolean isKnown = calls.containsKey(called) || LIBRARY.contains(called);
                // a constructor that is not written has no calls to look at
                boolean isUnwritten = called.startsWith("TrueSheets.") && called.endsWith("()");
                Run.check(method.getKey() + " may call " + called, isKnown || isUnwritten, true);
            }
            int depth = depthOf(method.getKey(), 1);
            Run.check(method.getKey() + " goes " + depth + " deep", depth <= DEEPEST_CALL, true);
        }
    }

    /** How many methods stand open at most, this one and those of the library included. */
    private int depthOf(String method, int open) {
        if (open > GIVEN_UP) {
            return GIVEN_UP;
        }
        Integer known = depths.get(method);
        if (known != null) {
            return known;
        }
        int deepest = 0;
        for (String called : calls.getOrDefault(method, Set.of())) {
            if (!LIBRARY.contains(called)) {
                deepest = Math.max(deepest, depthOf(called, open + 1));
            }
        }
        depths.put(method, deepest + 1);
        return deepest + 1;
    }

    /** Notes the calls of each method, and looks at the sizes of classes and methods on its way. */
    private final class Reader extends TreePathScanner<Void, Void> {
        private final Trees trees;
        private String method = "";

        Reader(Trees trees) {
            this.trees = trees;
        }

        @Override
        public Void visitClass(ClassTree tree, Void none) {
            classes++;
            int fields = 0;
            for (Tree member : tree.getMembers()) {
                Run.check("a static initialiser in " + tree.getSimpleName(), member instanceof BlockTree, false);
                if (member instanceof VariableTree) {
                    Set<Modifier> modifiers = ((VariableTree) member).getModifiers().getFlags();
                    fields += modifiers.contains(Modifier.STATIC) ? 0 : 1;
                }
            }
            Run.check(tree.getSimpleName() + " has " + fields + " fields", fields <= MOST_FIELDS, true);
            return super.visitClass(tree, none);
        }

        @Override
        public Void visitMethod(MethodTree tree, Void none) {
            method = nameOf(trees.getElement(getCurrentPath()));
            calls.putIfAbsent(method, new TreeSet<>());
            Run.check(method + " has few parameters", tree.getParameters().size() <= MOST_PARAMETERS, true);
            super.visitMethod(tree, none);
            method = "";
            return null;
        }

        @Override
        public Void visitMethodInvocation(MethodInvocationTree tree, Void none) {
            note(trees.getElement(getCurrentPath()));
            return super.visitMethodInvocation(tree, none);
        }

        @Override
        public Void visitNewClass(NewClassTree tree, Void none) {
            Run.check("a class without a name in " + method, tree.getClassBody() == null, true);
            note(trees.getElement(getCurrentPath()));
            return super.visitNewClass(tree, none);
        }

        /** What fields are made with stands in no method, and Object's constructor does nothing. */
        private void note(Element called) {
            boolean isOfObject = called.getEnclosingElement().toString().equals("java.lang.Object");
            if (!method.isEmpty() && !isOfObject) {
                calls.get(method).add(nameOf(called));
            }
        }

        private String nameOf(Element element) {
            return element.getEnclosingElement() + "." + element;
        }
    }
}
