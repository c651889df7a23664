import com.sun.source.tree.AssertTree;
import com.sun.source.tree.BinaryTree;
import com.sun.source.tree.BlockTree;
import com.sun.source.tree.ClassTree;
import com.sun.source.tree.CompoundAssignmentTree;
import com.sun.source.tree.DoWhileLoopTree;
import com.sun.source.tree.ExpressionTree;
import com.sun.source.tree.ForLoopTree;
import com.sun.source.tree.LambdaExpressionTree;
import com.sun.source.tree.LiteralTree;
import com.sun.source.tree.MemberReferenceTree;
import com.sun.source.tree.MethodInvocationTree;
import com.sun.source.tree.MethodTree;
import com.sun.source.tree.NewClassTree;
import com.sun.source.tree.ParenthesizedTree;
import com.sun.source.tree.SynchronizedTree;
import com.sun.source.tree.ThrowTree;
import com.sun.source.tree.Tree;
import com.sun.source.tree.TryTree;
import com.sun.source.tree.VariableTree;
import com.sun.source.tree.WhileLoopTree;
import com.sun.source.util.TreePath;
import com.sun.source.util.TreePathScanner;
import java.io.IOException;
import java.nio.file.Files;
import java.nio.file.Path;
import java.util.HashSet;
import java.util.List;
import java.util.Set;
import javax.lang.model.element.Element;
import javax.lang.model.element.ElementKind;
import javax.lang.model.element.Modifier;
import javax.lang.model.type.ArrayType;
import javax.lang.model.type.TypeKind;
import javax.lang.model.type.TypeMirror;

/** The class keeps to ../shared/LANGUAGE.md, as far as that can be seen from its text; each rule is quoted. */
public final class LanguageTest extends TreePathScanner<Void, Void> {
    private static final Check CHECK = new Check();
    private static final Path RULES = Path.of("..", "shared", "LANGUAGE.md");
    private static final int MOST_CLASSES = 12, MOST_FIELDS = 20, MOST_PARAMETERS = 7, MOST_LINES = 60, MOST_DEEP = 8;
    private static final Set<String> LIBRARY = Set.of(
            "String.length", "String.charAt", "String.isEmpty", "String.equals", "String.indexOf", "String.substring",
            "String.toCharArray", "StringBuilder.append", "StringBuilder.charAt", "StringBuilder.setCharAt",
            "StringBuilder.setLength", "StringBuilder.deleteCharAt", "StringBuilder.reverse", "StringBuilder.length",
            "StringBuilder.toString", "ArrayList.add", "ArrayList.get", "ArrayList.set", "ArrayList.remove",
            "ArrayList.size", "ArrayList.isEmpty", "ArrayList.clear", "List.add", "List.get", "List.set", "List.remove",
            "List.size", "List.isEmpty", "List.clear", "System.arraycopy", "Arrays.copyOf", "Arrays.copyOfRange",
            "Arrays.fill");
    private static final Set<String> LIBRARY_CLASSES = Set.of("String", "StringBuilder", "ArrayList");
    private static final Set<String> STATIC_LIBRARY = Set.of("Integer", "Long", "Math");

    private final Source source;
    private final Calls calls = new Calls();
    private final Set<String> faceNames = new HashSet<>();
    private final String rules;
    private Element method;
    private int classes;

    private LanguageTest(Source source) throws IOException {
        this.source = source;
        rules = Files.isReadable(RULES) ? Files.readString(RULES) : "";
    }

    public static void main(String[] args) throws IOException {
        LanguageTest test = new LanguageTest(new Source());
        test.findFace();
        test.scan(test.source.unit, null);
        test.judgeCalls();
        CHECK.end();
    }

    /** It holds for this part of the class; the words stand in the rule. */
    private void rule(int number, String words, Tree at, boolean holds) {
        rule(number, words, "line " + source.lineOf(at), holds);
    }

    private void rule(int number, String words, String where, boolean holds) {
        String told = "Rule " + number + ", \"" + words + "\": ";
        CHECK.due(told + where, holds ? 1 : 0, 1);
        if (!rules.isEmpty()) {
            int from = rules.indexOf("\n" + number + ". ");
            int to = rules.indexOf("\n" + (number + 1) + ". ");
            int found = rules.indexOf(words, Math.max(from, 0));
            boolean stands = from >= 0 && found >= 0 && (to < 0 || found < to);
            CHECK.due(told + "the words stand there", stands ? 1 : 0, 1);
        }
    }

    private void findFace() {
        for (Tree member : ((ClassTree) source.unit.getTypeDecls().get(0)).getMembers()) {
            if (member instanceof MethodTree each && each.getModifiers().getFlags().contains(Modifier.PUBLIC)) {
                faceNames.add(each.getName().toString());
            }
        }
        faceNames.remove("<init>");
        CHECK.due("methods of the face", faceNames.size(), 29);
        CHECK.due("classes beside it in the file", source.unit.getTypeDecls().size(), 1);
    }

    private static boolean isConstant(VariableTree field) {
        return field.getModifiers().getFlags().containsAll(Set.of(Modifier.STATIC, Modifier.FINAL));
    }

    @Override
    public Void visitClass(ClassTree tree, Void none) {
        classes++;
        rule(11, "the file has at most some twelve classes", tree, classes <= MOST_CLASSES);
        boolean inMethod = method != null;
        rule(2, "no local class that captures a variable", tree, !inMethod);
        int fields = 0;
        for (Tree member : tree.getMembers()) {
            if (member instanceof VariableTree field) {
                boolean isStatic = field.getModifiers().getFlags().contains(Modifier.STATIC);
                rule(5, "Static fields are final", field, !isStatic || isConstant(field));
                fields += isConstant(field) ? 0 : 1;
            }
            boolean isStaticBlock = member instanceof BlockTree block && block.isStatic();
            rule(5, "no static initialiser block.", member, !isStaticBlock);
        }
        rule(11, "a class some twenty fields beside its constants.", tree, fields <= MOST_FIELDS);
        return super.visitClass(tree, none);
    }

    @Override
    public Void visitMethod(MethodTree tree, Void none) {
        Element outer = method;
        method = source.elementAt(getCurrentPath());
        boolean isFace = method.getModifiers().contains(Modifier.PUBLIC);
        boolean named = faceNames.contains(tree.getName().toString());
        rule(1, "No private method bears the name of a public one.", tree, isFace || !named);
        rule(11, "A method takes at most seven parameters.", tree, tree.getParameters().size() <= MOST_PARAMETERS);
        rule(11, "Methods stay short (some sixty lines)", tree, source.linesOf(tree) <= MOST_LINES);
        rule(6, "A call of the face throws exactly what and where the document says", tree, tree.getThrows().isEmpty());
        super.visitMethod(tree, none);
        method = outer;
        return null;
    }

    @Override
    public Void visitVariable(VariableTree tree, Void none) {
        rule(3, "Types: int, long, short, byte, char, boolean", tree, isAllowed(source.typeAt(getCurrentPath()), 0));
        return super.visitVariable(tree, none);
    }

    private boolean isAllowed(TypeMirror type, int dimensions) {
        if (type instanceof ArrayType array) {
            boolean ofRows = array.getComponentType() instanceof ArrayType;
            return dimensions == 0 && isAllowed(array.getComponentType(), 1)
                    || dimensions == 1 && !ofRows && isNumber(array.getComponentType());
        }
        return type.getKind().isPrimitive() || isOwn(type.toString())
                || Set.of("java.lang.String", "java.lang.StringBuilder").contains(type.toString());
    }

    private static boolean isNumber(TypeMirror type) {
        return type.getKind().isPrimitive() && type.getKind() != TypeKind.BOOLEAN;
    }

    private static boolean isOwn(String name) {
        return name.equals("SoundToll") || name.startsWith("SoundToll.");
    }

    @Override
    public Void visitMethodInvocation(MethodInvocationTree tree, Void none) {
        Element called = source.elementAt(getCurrentPath());
        Element owner = called.getEnclosingElement();
        calls.put(method, called);
        if (!isOwn(owner.toString()) && called.getKind() == ElementKind.METHOD) {
            String name = called.getSimpleName().toString();
            String simple = owner.getSimpleName().toString();
            boolean known = LIBRARY.contains(simple + "." + name)
                    || STATIC_LIBRARY.contains(simple) && !name.endsWith("Exact")
                    || name.equals("clone");
            rule(4, "The library: only what stands here.", tree, known);
            if (simple.equals("System") || simple.equals("Arrays")) {
                overNumbers(tree);
            }
        }
        return super.visitMethodInvocation(tree, none);
    }

    private void overNumbers(MethodInvocationTree tree) {
        for (ExpressionTree argument : tree.getArguments()) {
            TypeMirror type = source.typeAt(new TreePath(getCurrentPath(), argument));
            boolean isNumbers = !(type instanceof ArrayType array) || isNumber(array.getComponentType());
            rule(4, "over arrays of numbers", tree, isNumbers);
        }
    }

    @Override
    public Void visitNewClass(NewClassTree tree, Void none) {
        String name = source.typeAt(getCurrentPath()).toString();
        String simple = name.substring(name.lastIndexOf('.') + 1);
        rule(4, "The library: only what stands here.", tree, isOwn(name) || LIBRARY_CLASSES.contains(simple));
        return super.visitNewClass(tree, none);
    }

    private void noText(Tree tree, TypeMirror type) {
        rule(10, "joining texts by StringBuilder (not by +).", tree, !type.toString().equals("java.lang.String"));
    }

    @Override
    public Void visitBinary(BinaryTree tree, Void none) {
        noText(tree, source.typeAt(getCurrentPath()));
        return super.visitBinary(tree, none);
    }

    @Override
    public Void visitCompoundAssignment(CompoundAssignmentTree tree, Void none) {
        noText(tree, source.typeAt(getCurrentPath()));
        return super.visitCompoundAssignment(tree, none);
    }

    @Override
    public Void visitForLoop(ForLoopTree tree, Void none) {
        ends(tree, tree.getCondition());
        return super.visitForLoop(tree, none);
    }

    @Override
    public Void visitWhileLoop(WhileLoopTree tree, Void none) {
        ends(tree, tree.getCondition());
        return super.visitWhileLoop(tree, none);
    }

    @Override
    public Void visitDoWhileLoop(DoWhileLoopTree tree, Void none) {
        ends(tree, tree.getCondition());
        return super.visitDoWhileLoop(tree, none);
    }

    private void ends(Tree loop, ExpressionTree condition) {
        ExpressionTree bare = condition instanceof ParenthesizedTree inside ? inside.getExpression() : condition;
        boolean isBound = bare != null && !(bare instanceof LiteralTree);
        rule(9, "Every loop has an end that can be seen from its own lines", loop, isBound);
    }

    @Override
    public Void visitLambdaExpression(LambdaExpressionTree tree, Void none) {
        rule(2, "no lambda, no method reference.", tree, false);
        return super.visitLambdaExpression(tree, none);
    }

    @Override
    public Void visitMemberReference(MemberReferenceTree tree, Void none) {
        rule(2, "no lambda, no method reference.", tree, false);
        return super.visitMemberReference(tree, none);
    }

    /** The document names no exception, so nothing need throw or catch one. */
    private void noException(Tree tree) {
        rule(6, "A call of the face throws exactly what and where the document says", tree, false);
    }

    @Override
    public Void visitThrow(ThrowTree tree, Void none) {
        noException(tree);
        return super.visitThrow(tree, none);
    }

    @Override
    public Void visitTry(TryTree tree, Void none) {
        noException(tree);
        return super.visitTry(tree, none);
    }

    @Override
    public Void visitSynchronized(SynchronizedTree tree, Void none) {
        rule(6, "No synchronized, assert", tree, false);
        return super.visitSynchronized(tree, none);
    }

    @Override
    public Void visitAssert(AssertTree tree, Void none) {
        rule(6, "No synchronized, assert", tree, false);
        return super.visitAssert(tree, none);
    }

    private void judgeCalls() {
        for (Element caller : List.copyOf(calls.callers())) {
            String where = caller.getEnclosingElement() + "." + caller;
            Set<Modifier> flags = caller.getModifiers();
            boolean isPrivate = flags.contains(Modifier.PRIVATE);
            boolean callsItself = calls.calledBy(caller).contains(caller);
            rule(8, "a private static method that calls itself", where,
                    !callsItself || isPrivate && flags.contains(Modifier.STATIC));
            rule(8, "private methods that call one another", where, !calls.comesBackTo(caller) || isPrivate);
            rule(11, "calls that are no recursion go at most eight deep", where + " goes " + calls.depthOf(caller)
                    + " deep", calls.depthOf(caller) <= MOST_DEEP);
        }
    }
}
