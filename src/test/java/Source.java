import com.sun.source.tree.ClassTree;
import com.sun.source.tree.CompilationUnitTree;
import com.sun.source.tree.MethodInvocationTree;
import com.sun.source.tree.MethodTree;
import com.sun.source.tree.NewClassTree;
import com.sun.source.tree.Tree;
import com.sun.source.util.JavacTask;
import com.sun.source.util.TreePath;
import com.sun.source.util.TreePathScanner;
import com.sun.source.util.Trees;
import java.io.IOException;
import java.nio.charset.StandardCharsets;
import java.nio.file.Files;
import java.nio.file.Path;
import java.util.ArrayList;
import java.util.LinkedHashMap;
import java.util.LinkedHashSet;
import java.util.List;
import java.util.Map;
import java.util.Set;
import java.util.TreeSet;
import java.util.function.Predicate;
import javax.lang.model.element.Element;
import javax.lang.model.element.ElementKind;
import javax.lang.model.element.ExecutableElement;
import javax.lang.model.element.Modifier;
import javax.lang.model.element.TypeElement;
import javax.lang.model.type.TypeMirror;
import javax.tools.JavaCompiler;
import javax.tools.StandardJavaFileManager;
import javax.tools.ToolProvider;

/** The text of a program as the compiler reads it: its trees, what they mean, and who calls whom. */
final class Source {
    final CompilationUnitTree unit;
    private final String text;
    private final Trees trees;
    private final List<TreePath> paths = new ArrayList<>();
    private final Map<ExecutableElement, Set<ExecutableElement>> calls = new LinkedHashMap<>();

    Source(Path file) throws IOException {
        text = Files.readString(file);
        JavaCompiler compiler = ToolProvider.getSystemJavaCompiler();
        try (StandardJavaFileManager files =
                compiler.getStandardFileManager(null, null, StandardCharsets.UTF_8)) {
            JavacTask task = (JavacTask) compiler.getTask(
                    null, files, null, List.of("-proc:none"), null, files.getJavaFileObjects(file));
            unit = task.parse().iterator().next();
            task.analyze();
            trees = Trees.instance(task);
        }
        new TreePathScanner<Void, Void>() {
            @Override
            public Void scan(Tree tree, Void nothing) {
                if (tree != null) {
                    TreePath around = getCurrentPath();
                    paths.add(around == null ? new TreePath(unit) : new TreePath(around, tree));
                }
                return super.scan(tree, nothing);
            }
        }.scan(unit, null);
        gatherCalls();
    }

    private void gatherCalls() {
        for (TreePath path : all(MethodTree.class)) {
            calls.put((ExecutableElement) meaning(path), new LinkedHashSet<>());
        }
        for (TreePath path : paths) {
            Tree.Kind kind = path.getLeaf().getKind();
            TreePath method = around(path, MethodTree.class);
            if (method != null && (kind == Tree.Kind.METHOD_INVOCATION || kind == Tree.Kind.NEW_CLASS)
                    && meaning(path) instanceof ExecutableElement called) {
                calls.get((ExecutableElement) meaning(method)).add(called);
            }
        }
    }

    /** All trees of a kind, in the order of the text. */
    List<TreePath> all(Class<? extends Tree> kind) {
        return all(path -> kind.isInstance(path.getLeaf()));
    }

    List<TreePath> all(Predicate<TreePath> wanted) {
        List<TreePath> found = new ArrayList<>();
        for (TreePath path : paths) {
            if (wanted.test(path)) {
                found.add(path);
            }
        }
        return found;
    }

    /** Those inside a tree, without itself. */
    List<TreePath> inside(TreePath outer, Predicate<TreePath> wanted) {
        return all(path -> path.getLeaf() != outer.getLeaf() && isInside(path, outer.getLeaf()) && wanted.test(path));
    }

    static boolean isInside(TreePath path, Tree outer) {
        for (TreePath at = path; at != null; at = at.getParentPath()) {
            if (at.getLeaf() == outer) {
                return true;
            }
        }
        return false;
    }

    /** The nearest tree of a kind that this one stands in; null if there is none. */
    static TreePath around(TreePath path, Class<? extends Tree> kind) {
        TreePath at = path.getParentPath();
        while (at != null && !kind.isInstance(at.getLeaf())) {
            at = at.getParentPath();
        }
        return at;
    }

    TreePath path(Tree tree) {
        return trees.getPath(unit, tree);
    }

    Element meaning(TreePath path) {
        return trees.getElement(path);
    }

    Element meaning(Tree tree) {
        return trees.getElement(path(tree));
    }

    TypeMirror type(Tree tree) {
        return trees.getTypeMirror(path(tree));
    }

    long startOf(Tree tree) {
        return trees.getSourcePositions().getStartPosition(unit, tree);
    }

    long line(Tree tree) {
        return unit.getLineMap().getLineNumber(Math.max(0, startOf(tree)));
    }

    long lastLine(Tree tree) {
        return unit.getLineMap().getLineNumber(Math.max(0, trees.getSourcePositions().getEndPosition(unit, tree)));
    }

    /** Whether it stands in the text: the compiler writes constructors of its own. */
    boolean isWritten(TreePath method) {
        return trees.getSourcePositions().getEndPosition(unit, method.getLeaf()) >= 0;
    }

    boolean isOwn(Element element) {
        Element main = meaning(mainClass());
        for (Element at = element; at != null; at = at.getEnclosingElement()) {
            if (at.equals(main)) {
                return true;
            }
        }
        return false;
    }

    Set<ExecutableElement> methods() {
        return calls.keySet();
    }

    Set<ExecutableElement> calledBy(ExecutableElement method) {
        return calls.getOrDefault(method, Set.of());
    }

    /** All that a method can come to, itself only if it can be called again. */
    Set<ExecutableElement> reachedFrom(ExecutableElement method, Predicate<ExecutableElement> isPassed) {
        Set<ExecutableElement> reached = new LinkedHashSet<>();
        List<ExecutableElement> open = new ArrayList<>(calledBy(method));
        while (!open.isEmpty()) {
            ExecutableElement next = open.remove(open.size() - 1);
            if (isPassed.test(next) && reached.add(next)) {
                open.addAll(calledBy(next));
            }
        }
        return reached;
    }

    /** How many calls can stand open at once, this one and those of the library among them, without recursion. */
    int depthOf(ExecutableElement method) {
        return depthOf(method, new LinkedHashSet<>());
    }

    private int depthOf(ExecutableElement method, Set<ExecutableElement> open) {
        int deepest = 0;
        open.add(method);
        for (ExecutableElement called : calledBy(method)) {
            if (!open.contains(called) && !isOfObject(called)) {
                deepest = Math.max(deepest, depthOf(called, open));
            }
        }
        open.remove(method);
        return deepest + 1;
    }

    private static boolean isOfObject(ExecutableElement method) {
        return method.getEnclosingElement().toString().equals("java.lang.Object");
    }

    /** The names of the exceptions that are thrown in the very text of a method. */
    Set<String> thrownIn(ExecutableElement method) {
        Set<String> thrown = new TreeSet<>();
        for (TreePath path : all(path -> path.getLeaf().getKind() == Tree.Kind.THROW)) {
            TreePath around = around(path, MethodTree.class);
            if (around != null && method.equals(meaning(around))) {
                for (TreePath made : inside(path, one -> one.getLeaf() instanceof NewClassTree)) {
                    thrown.add(((NewClassTree) made.getLeaf()).getIdentifier().toString());
                }
            }
        }
        return thrown;
    }

    static boolean isConstructor(Element element) {
        return element.getKind() == ElementKind.CONSTRUCTOR;
    }

    static boolean has(Element element, Modifier modifier) {
        return element.getModifiers().contains(modifier);
    }

    static boolean isSuperCall(Tree call) {
        return call instanceof MethodInvocationTree
                && ((MethodInvocationTree) call).getMethodSelect().toString().equals("super");
    }

    String text() {
        return text;
    }

    ClassTree mainClass() {
        return (ClassTree) unit.getTypeDecls().get(0);
    }
}
