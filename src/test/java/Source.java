import com.sun.source.tree.ClassTree;
import com.sun.source.tree.CompilationUnitTree;
import com.sun.source.tree.MethodInvocationTree;
import com.sun.source.tree.MethodTree;
import com.sun.source.tree.NewClassTree;
import com.sun.source.tree.Tree;
import com.sun.source.tree.VariableTree;
import com.sun.source.util.JavacTask;
import com.sun.source.util.TreePath;
import com.sun.source.util.TreePathScanner;
import com.sun.source.util.Trees;
import java.io.IOException;
import java.nio.file.Path;
import java.util.ArrayList;
import java.util.List;
import javax.lang.model.element.Element;
import javax.lang.model.type.TypeMirror;
import javax.tools.JavaCompiler;
import javax.tools.StandardJavaFileManager;
import javax.tools.ToolProvider;

/** src/main/java/GlassJar.java as the compiler reads it. */
final class Source {
    private static final Path PLACE = Path.of("src/main/java/GlassJar.java");

    private final Trees trees;
    private final CompilationUnitTree unit;
    private final List<TreePath> paths = new ArrayList<>();

    Source() throws IOException {
        JavaCompiler compiler = ToolProvider.getSystemJavaCompiler();
        try (StandardJavaFileManager files = compiler.getStandardFileManager(null, null, null)) {
            JavacTask task = (JavacTask) compiler.getTask(null, files, null, List.of("-proc:none"), null,
                    files.getJavaFileObjects(PLACE));
            unit = task.parse().iterator().next();
            task.analyze();
            trees = Trees.instance(task);
        }
        collect();
    }

    private void collect() {
        new TreePathScanner<Void, Void>() {
            @Override
            public Void scan(Tree tree, Void none) {
                if (tree != null) {
                    paths.add(new TreePath(getCurrentPath(), tree));
                }
                return super.scan(tree, none);
            }
        }.scan(new TreePath(unit), null);
    }

    CompilationUnitTree unit() {
        return unit;
    }

    /** All trees of these forms, from the first line to the last. */
    List<TreePath> all(Class<?>... forms) {
        List<TreePath> found = new ArrayList<>();
        for (TreePath path : paths) {
            for (Class<?> form : forms) {
                if (form.isInstance(path.getLeaf())) {
                    found.add(path);
                }
            }
        }
        return found;
    }

    /** All trees of these kinds. */
    List<TreePath> all(Tree.Kind... kinds) {
        List<TreePath> found = new ArrayList<>();
        for (TreePath path : paths) {
            if (List.of(kinds).contains(path.getLeaf().getKind())) {
                found.add(path);
            }
        }
        return found;
    }

    Element element(TreePath path) {
        return trees.getElement(path);
    }

    TypeMirror type(TreePath path) {
        return trees.getTypeMirror(path);
    }

    /** The method or constructor that a call goes to. */
    Element target(TreePath call) {
        if (call.getLeaf() instanceof NewClassTree) {
            return trees.getElement(call);
        }
        return trees.getElement(new TreePath(call, ((MethodInvocationTree) call.getLeaf()).getMethodSelect()));
    }

    long line(TreePath path) {
        return lineAt(trees.getSourcePositions().getStartPosition(unit, path.getLeaf()));
    }

    /** None, if the compiler itself put it in. */
    long lines(TreePath path) {
        long end = trees.getSourcePositions().getEndPosition(unit, path.getLeaf());
        return end < 0 ? 0 : lineAt(end) - line(path) + 1;
    }

    private long lineAt(long position) {
        return position < 0 ? 0 : unit.getLineMap().getLineNumber(position);
    }

    /** The method that holds it, or null for what stands in a class alone. */
    static TreePath method(TreePath path) {
        TreePath at = path;
        while (at != null && !(at.getLeaf() instanceof MethodTree)) {
            at = at.getParentPath();
        }
        return at;
    }

    /** The class that holds it. */
    static TreePath holder(TreePath path) {
        TreePath at = path.getParentPath();
        while (!(at.getLeaf() instanceof ClassTree)) {
            at = at.getParentPath();
        }
        return at;
    }

    static boolean isField(TreePath path) {
        return path.getLeaf() instanceof VariableTree && path.getParentPath().getLeaf() instanceof ClassTree;
    }

    /** The field that it is the first value of, or null. */
    static TreePath field(TreePath path) {
        TreePath at = path;
        while (at != null && !isField(at)) {
            at = at.getParentPath();
        }
        return method(path) == null ? at : null;
    }
}
