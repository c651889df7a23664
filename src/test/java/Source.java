import com.sun.source.tree.CompilationUnitTree;
import com.sun.source.tree.Tree;
import com.sun.source.util.JavacTask;
import com.sun.source.util.TreePath;
import com.sun.source.util.Trees;
import java.io.File;
import java.io.IOException;
import java.util.List;
import javax.lang.model.element.Element;
import javax.lang.model.type.TypeMirror;
import javax.tools.JavaCompiler;
import javax.tools.StandardJavaFileManager;
import javax.tools.ToolProvider;

/** The text of the class as javac reads it, with what each name in it stands for. */
final class Source {
    private static final File FILE = new File("src/main/java/SoundToll.java");

    final CompilationUnitTree unit;
    private final Trees trees;

    Source() throws IOException {
        JavaCompiler compiler = ToolProvider.getSystemJavaCompiler();
        try (StandardJavaFileManager files = compiler.getStandardFileManager(null, null, null)) {
            JavacTask task = (JavacTask) compiler.getTask(null, files, null, List.of("-proc:none"), null,
                    files.getJavaFileObjects(FILE));
            unit = task.parse().iterator().next();
            task.analyze();
            trees = Trees.instance(task);
        }
    }

    /** Null: javac knows none. */
    Element elementAt(TreePath path) {
        return trees.getElement(path);
    }

    TypeMirror typeAt(TreePath path) {
        return trees.getTypeMirror(path);
    }

    /** How many lines it goes over. */
    long linesOf(Tree tree) {
        return lineAt(trees.getSourcePositions().getEndPosition(unit, tree)) - lineOf(tree) + 1;
    }

    long lineOf(Tree tree) {
        return lineAt(trees.getSourcePositions().getStartPosition(unit, tree));
    }

    private long lineAt(long place) {
        return unit.getLineMap().getLineNumber(place);
    }
}
