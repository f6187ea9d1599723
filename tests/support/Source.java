import com.sun.source.tree.CompilationUnitTree;
import com.sun.source.tree.Tree;
import com.sun.source.util.JavacTask;
import com.sun.source.util.TreePath;
import com.sun.source.util.Trees;
import java.io.IOException;
import java.nio.file.Path;
import java.util.List;
import javax.lang.model.element.Element;
import javax.lang.model.element.ElementKind;
import javax.lang.model.element.TypeElement;
import javax.lang.model.type.TypeMirror;
import javax.tools.JavaCompiler;
import javax.tools.StandardJavaFileManager;
import javax.tools.ToolProvider;

/** The text of the class as the compiler reads it, and what the names in it stand for. */
final class Source {
    final CompilationUnitTree unit;
    private final Trees trees;

    private Source(CompilationUnitTree unit, Trees trees) {
        this.unit = unit;
        this.trees = trees;
    }

    static Source read(Path file) throws IOException {
        JavaCompiler compiler = ToolProvider.getSystemJavaCompiler();
        StandardJavaFileManager files = compiler.getStandardFileManager(null, null, null);
        JavacTask task = (JavacTask) compiler.getTask(null, files, null, List.of("-proc:none"), null,
                files.getJavaFileObjects(file));
        CompilationUnitTree unit = task.parse().iterator().next();
        task.analyze();
        return new Source(unit, Trees.instance(task));
    }

    long firstLine(Tree tree) {
        return unit.getLineMap().getLineNumber(trees.getSourcePositions().getStartPosition(unit, tree));
    }

    long lines(Tree tree) {
        long last = unit.getLineMap().getLineNumber(trees.getSourcePositions().getEndPosition(unit, tree));
        return last - firstLine(tree) + 1;
    }

    Element element(TreePath path) {
        return trees.getElement(path);
    }

    TypeMirror type(TreePath path) {
        return trees.getTypeMirror(path);
    }

    /** Whether something stands in the class or in one of the classes inside it. */
    static boolean isOwn(Element element) {
        Element outermost = element;
        while (outermost != null && outermost.getEnclosingElement() != null
                && outermost.getEnclosingElement().getKind() != ElementKind.PACKAGE) {
            outermost = outermost.getEnclosingElement();
        }
        return outermost != null && outermost.getSimpleName().contentEquals("WindElection");
    }

    /** A method's name behind that of its class. */
    static String name(Element method) {
        TypeElement in = (TypeElement) method.getEnclosingElement();
        return in.getSimpleName() + "." + method.getSimpleName();
    }
}
