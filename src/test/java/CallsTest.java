import com.sun.source.tree.ClassTree;
import com.sun.source.tree.CompilationUnitTree;
import com.sun.source.tree.MethodInvocationTree;
import com.sun.source.tree.MethodTree;
import com.sun.source.tree.NewArrayTree;
import com.sun.source.tree.NewClassTree;
import com.sun.source.tree.Tree;
import com.sun.source.tree.VariableTree;
import com.sun.source.util.JavacTask;
import com.sun.source.util.TreePathScanner;
import com.sun.source.util.Trees;
import java.io.IOException;
import java.nio.file.Path;
import java.util.HashMap;
import java.util.HashSet;
import java.util.List;
import java.util.Map;
import java.util.Set;
import java.util.TreeSet;
import javax.lang.model.element.Element;
import javax.lang.model.element.ElementKind;
import javax.lang.model.element.Modifier;
import javax.tools.JavaCompiler;
import javax.tools.StandardJavaFileManager;
import javax.tools.ToolProvider;

/**
 * Rules of LANGUAGE.md about calls, as the compiler sees them: the library that is used (4), calls
 * that go eight deep at most, and no recursion (8, 11), the fields of a class (11), and that only
 * constructors make objects and arrays (12), so that no call takes room.
 */
public final class CallsTest extends TreePathScanner<Void, Void> {
    private static final Path CODE = Path.of("src/main/java/KeyGraves.java");
    private static final Set<String> LIBRARY = Set.of("java.lang.Math.min(int,int)",
        "java.lang.Math.max(int,int)",
        "java.lang.System.arraycopy(java.lang.Object,int,java.lang.Object,int,int)",
        "java.lang.Object.Object()");
    private static final int DEEPEST = 8;
    private static final int MOST_FIELDS = 20;

    private final Due due = new Due();
    private final Trees trees;
    private final Map<String, Set<String>> callsOf = new HashMap<>();
    private final Set<String> used = new TreeSet<>();
    private Element method = null;

    private CallsTest(Trees trees) {
        this.trees = trees;
    }

    public static void main(String[] args) throws IOException {
        JavaCompiler compiler = ToolProvider.getSystemJavaCompiler();
        try (StandardJavaFileManager files = compiler.getStandardFileManager(null, null, null)) {
            JavacTask task = (JavacTask) compiler.getTask(null, files, null, List.of("-proc:none"),
                null, files.getJavaFileObjects(CODE));
            Iterable<? extends CompilationUnitTree> units = task.parse();
            task.analyze();
            CallsTest test = new CallsTest(Trees.instance(task));
            test.scan(units, null);
            test.lookAtLibrary();
            test.lookAtDepths();
            test.due.end();
        }
    }

    private static String name(Element element) {
        return element.getEnclosingElement() + "." + (element.getKind() == ElementKind.CONSTRUCTOR
            ? element.toString().replaceAll(".*\\.", "") : element.toString());
    }

    @Override
    public Void visitClass(ClassTree tree, Void nothing) {
        int fields = 0;
        for (Tree member : tree.getMembers()) {
            boolean isField = member instanceof VariableTree variable
                && !variable.getModifiers().getFlags().contains(Modifier.STATIC);
            fields += isField ? 1 : 0;
        }
        due.is(tree.getSimpleName() + " has many fields: " + fields, fields > MOST_FIELDS ? 1 : 0, 0);
        return super.visitClass(tree, nothing);
    }

    @Override
    public Void visitMethod(MethodTree tree, Void nothing) {
        method = trees.getElement(getCurrentPath());
        callsOf.put(name(method), new HashSet<>());
        super.visitMethod(tree, nothing);
        method = null;
        return null;
    }

    @Override
    public Void visitMethodInvocation(MethodInvocationTree tree, Void nothing) {
        note(trees.getElement(getCurrentPath()));
        return super.visitMethodInvocation(tree, nothing);
    }

    @Override
    public Void visitNewClass(NewClassTree tree, Void nothing) {
        lookAtMaking(tree);
        note(trees.getElement(getCurrentPath()));
        return super.visitNewClass(tree, nothing);
    }

    @Override
    public Void visitNewArray(NewArrayTree tree, Void nothing) {
        lookAtMaking(tree);
        return super.visitNewArray(tree, nothing);
    }

    private void note(Element called) {
        used.add(name(called));
        if (method != null) {
            callsOf.get(name(method)).add(name(called));
        }
    }

    /** A field's first value is made by the constructor, too. */
    private void lookAtMaking(Tree tree) {
        boolean byConstructor = method == null || method.getKind() == ElementKind.CONSTRUCTOR;
        due.is(tree + " is made by a constructor", byConstructor ? 1 : 0, 1);
    }

    private void lookAtLibrary() {
        for (String each : used) {
            boolean allowed = callsOf.containsKey(each) || LIBRARY.contains(each);
            due.is(each + " may be used", allowed ? 1 : 0, 1);
        }
    }

    private void lookAtDepths() {
        int deepest = 0;
        for (String each : callsOf.keySet()) {
            deepest = Math.max(deepest, depth(each, 1));
        }
        due.is("calls go deep: " + deepest, deepest > DEEPEST ? 1 : 0, 0);
        System.out.println("calls go " + deepest + " deep");
        due.is("calls were looked at: " + deepest, deepest > 3 ? 1 : 0, 1);
    }

    /** How deep calls go from here on; a recursion is cut off behind the depth that is allowed. */
    private int depth(String caller, int above) {
        int deepest = above;
        if (above <= DEEPEST) {
            for (String each : callsOf.getOrDefault(caller, Set.of())) {
                deepest = Math.max(deepest, depth(each, above + 1));
            }
        }
        return deepest;
    }
}
