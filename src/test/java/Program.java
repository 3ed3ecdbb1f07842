import com.sun.source.tree.ClassTree;
import com.sun.source.tree.CompilationUnitTree;
import com.sun.source.tree.LineMap;
import com.sun.source.tree.MethodTree;
import com.sun.source.tree.Tree;
import com.sun.source.util.JavacTask;
import com.sun.source.util.TreePath;
import com.sun.source.util.TreePathScanner;
import com.sun.source.util.Trees;
import java.io.IOException;
import java.io.UncheckedIOException;
import java.nio.charset.StandardCharsets;
import java.nio.file.Files;
import java.nio.file.Path;
import java.util.ArrayList;
import java.util.List;
import javax.lang.model.element.Element;
import javax.lang.model.type.TypeMirror;
import javax.tools.JavaCompiler;
import javax.tools.StandardJavaFileManager;
import javax.tools.ToolProvider;

/** The source of WellRights as the compiler reads it. */
final class Program {
    private static final Path PLACE = Path.of("src", "main", "java", "WellRights.java");
    private static final Program READ = read();

    private final CompilationUnitTree unit;
    private final Trees trees;
    private final List<TreePath> nodes = new ArrayList<>();

    private Program(CompilationUnitTree unit, Trees trees) {
        this.unit = unit;
        this.trees = trees;
        new TreePathScanner<Void, Void>() {
            @Override
            public Void scan(Tree tree, Void unused) {
                if (tree != null) {
                    TreePath parent = getCurrentPath();
                    nodes.add(parent == null ? new TreePath(unit) : new TreePath(parent, tree));
                }
                return super.scan(tree, unused);
            }
        }.scan(unit, null);
    }

    private static Program read() {
        JavaCompiler compiler = ToolProvider.getSystemJavaCompiler();
        try (StandardJavaFileManager files = compiler.getStandardFileManager(null, null, StandardCharsets.UTF_8)) {
            JavacTask task = (JavacTask) compiler.getTask(
                    null, files, null, List.of("-proc:none"), null, files.getJavaFileObjects(PLACE));
            CompilationUnitTree unit = task.parse().iterator().next();
            task.analyze();
            return new Program(unit, Trees.instance(task));
        } catch (IOException unread) {
            throw new UncheckedIOException(unread);
        }
    }

    static List<String> lines() throws IOException {
        return Files.readAllLines(PLACE);
    }

    static CompilationUnitTree unit() {
        return READ.unit;
    }

    /** Every part of the source of one of these kinds, with the parts around it. */
    static List<TreePath> all(Tree.Kind... kinds) {
        List<TreePath> found = new ArrayList<>();
        for (TreePath node : READ.nodes) {
            for (Tree.Kind kind : kinds) {
                if (node.getLeaf().getKind() == kind) {
                    found.add(node);
                }
            }
        }
        return found;
    }

    static Element elementOf(TreePath path) {
        return READ.trees.getElement(path);
    }

    static TypeMirror typeOf(TreePath path) {
        return READ.trees.getTypeMirror(path);
    }

    /** True if the part stands below one of these kinds and inside the same method. */
    static boolean isInside(TreePath path, Tree.Kind... kinds) {
        for (TreePath around = path.getParentPath(); around != null; around = around.getParentPath()) {
            for (Tree.Kind kind : kinds) {
                if (around.getLeaf().getKind() == kind) {
                    return true;
                }
            }
            if (around.getLeaf() instanceof MethodTree) {
                return false;
            }
        }
        return false;
    }

    /** The nearest class around a part. */
    static ClassTree classAround(TreePath path) {
        TreePath around = path.getParentPath();
        while (!(around.getLeaf() instanceof ClassTree)) {
            around = around.getParentPath();
        }
        return (ClassTree) around.getLeaf();
    }

    /** The method around a part, or null. */
    static TreePath methodAround(TreePath path) {
        TreePath around = path.getParentPath();
        while (around != null && !(around.getLeaf() instanceof MethodTree)) {
            around = around.getParentPath();
        }
        return around;
    }

    static int linesOf(Tree tree) {
        LineMap lines = READ.unit.getLineMap();
        long first = lines.getLineNumber(READ.trees.getSourcePositions().getStartPosition(READ.unit, tree));
        long last = lines.getLineNumber(READ.trees.getSourcePositions().getEndPosition(READ.unit, tree));
        return (int) (last - first + 1);
    }

    /** The part as it is written, with its first line's number. */
    static String where(TreePath path) {
        long start = READ.trees.getSourcePositions().getStartPosition(READ.unit, path.getLeaf());
        String text = path.getLeaf().toString().trim();
        return "line " + READ.unit.getLineMap().getLineNumber(start) + ": " + text.substring(0, Math.min(60, text.length()));
    }
}
