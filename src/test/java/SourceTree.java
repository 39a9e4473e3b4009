import com.sun.source.tree.ClassTree;
import com.sun.source.tree.CompilationUnitTree;
import com.sun.source.tree.MethodInvocationTree;
import com.sun.source.tree.MethodTree;
import com.sun.source.tree.Tree;
import com.sun.source.util.JavacTask;
import com.sun.source.util.TreePath;
import com.sun.source.util.TreePathScanner;
import com.sun.source.util.Trees;
import java.io.IOException;
import java.nio.file.Path;
import java.util.ArrayList;
import java.util.LinkedHashMap;
import java.util.LinkedHashSet;
import java.util.List;
import java.util.Map;
import java.util.Set;
import javax.lang.model.element.Element;
import javax.lang.model.element.ExecutableElement;
import javax.lang.model.element.TypeElement;
import javax.lang.model.type.TypeMirror;
import javax.tools.JavaCompiler;
import javax.tools.StandardJavaFileManager;
import javax.tools.ToolProvider;

/** The compiler's own tree of a program, with what each name in it stands for. */
final class SourceTree {
    final CompilationUnitTree unit;
    /** Every place of the tree, outer ones ahead of inner ones. */
    final List<TreePath> places = new ArrayList<>();
    /** What each method or constructor calls of the program itself. */
    final Map<ExecutableElement, Set<ExecutableElement>> calls = new LinkedHashMap<>();
    private final Trees trees;

    SourceTree(Path file) throws IOException {
        JavaCompiler compiler = ToolProvider.getSystemJavaCompiler();
        try (StandardJavaFileManager files = compiler.getStandardFileManager(null, null, null)) {
            JavacTask task = (JavacTask) compiler.getTask(null, files, null, List.of("--release", "17", "-proc:none"),
                null, files.getJavaFileObjects(file));
            unit = task.parse().iterator().next();
            task.analyze();
            trees = Trees.instance(task);
        }
        new TreePathScanner<Void, Void>() {
            @Override
            public Void scan(Tree tree, Void none) {
                if (tree != null && getCurrentPath() != null) {
                    places.add(new TreePath(getCurrentPath(), tree));
                }
                return super.scan(tree, none);
            }
        }.scan(new TreePath(unit), null);
        places.removeIf(p -> !isWritten(p.getLeaf()));
        gatherCalls();
    }

    /** The compiler puts in constructors and calls of super() that nobody wrote: these have no end. */
    private boolean isWritten(Tree tree) {
        return trees.getSourcePositions().getEndPosition(unit, tree) >= 0;
    }

    private void gatherCalls() {
        for (TreePath p : places) {
            if (p.getLeaf() instanceof MethodTree) {
                calls.put((ExecutableElement) element(p), new LinkedHashSet<>());
            }
        }
        for (TreePath p : places) {
            TreePath method = enclosing(p, MethodTree.class);
            if (p.getLeaf() instanceof MethodInvocationTree && method != null) {
                ExecutableElement called = (ExecutableElement) element(p);
                if (calls.containsKey(called)) {
                    calls.get((ExecutableElement) element(method)).add(called);
                }
            }
        }
    }

    <T extends Tree> List<TreePath> all(Class<T> kind) {
        List<TreePath> found = new ArrayList<>();
        for (TreePath p : places) {
            if (kind.isInstance(p.getLeaf())) {
                found.add(p);
            }
        }
        return found;
    }

    /** A tree itself and all within it. */
    List<TreePath> inside(Tree outer) {
        List<TreePath> found = new ArrayList<>();
        for (TreePath p : places) {
            TreePath at = p;
            while (at != null && at.getLeaf() != outer) {
                at = at.getParentPath();
            }
            if (at != null) {
                found.add(p);
            }
        }
        return found;
    }

    Element element(TreePath p) {
        return trees.getElement(p);
    }

    TypeMirror type(TreePath p) {
        return trees.getTypeMirror(p);
    }

    TypeMirror type(TreePath parent, Tree child) {
        return trees.getTypeMirror(new TreePath(parent, child));
    }

    TreePath enclosing(TreePath p, Class<? extends Tree> kind) {
        TreePath at = p.getParentPath();
        while (at != null && !kind.isInstance(at.getLeaf())) {
            at = at.getParentPath();
        }
        return at;
    }

    long lineOf(Tree tree) {
        return unit.getLineMap().getLineNumber(trees.getSourcePositions().getStartPosition(unit, tree));
    }

    long lastLineOf(Tree tree) {
        return unit.getLineMap().getLineNumber(trees.getSourcePositions().getEndPosition(unit, tree));
    }

    /** Whether a class stands in this file. */
    boolean isOwn(Element type) {
        for (TreePath p : all(ClassTree.class)) {
            if (type instanceof TypeElement && element(p).equals(type)) {
                return true;
            }
        }
        return false;
    }

    String where(TreePath p) {
        return "line " + lineOf(p.getLeaf()) + ": " + p.getLeaf().toString().trim().split("\n")[0];
    }
}
