import com.sun.source.tree.AssertTree;
import com.sun.source.tree.BinaryTree;
import com.sun.source.tree.ClassTree;
import com.sun.source.tree.CompoundAssignmentTree;
import com.sun.source.tree.DoWhileLoopTree;
import com.sun.source.tree.ExpressionTree;
import com.sun.source.tree.ForLoopTree;
import com.sun.source.tree.IdentifierTree;
import com.sun.source.tree.ImportTree;
import com.sun.source.tree.InstanceOfTree;
import com.sun.source.tree.LambdaExpressionTree;
import com.sun.source.tree.LiteralTree;
import com.sun.source.tree.MemberReferenceTree;
import com.sun.source.tree.MemberSelectTree;
import com.sun.source.tree.MethodInvocationTree;
import com.sun.source.tree.MethodTree;
import com.sun.source.tree.NewArrayTree;
import com.sun.source.tree.NewClassTree;
import com.sun.source.tree.SynchronizedTree;
import com.sun.source.tree.ThrowTree;
import com.sun.source.tree.Tree;
import com.sun.source.tree.TryTree;
import com.sun.source.tree.TypeCastTree;
import com.sun.source.tree.VariableTree;
import com.sun.source.tree.WhileLoopTree;
import com.sun.source.util.TreePath;
import com.sun.source.util.TreePathScanner;
import java.nio.file.Path;
import java.util.List;
import java.util.Set;
import javax.lang.model.element.Element;
import javax.lang.model.element.ElementKind;
import javax.lang.model.element.Modifier;
import javax.lang.model.type.ArrayType;
import javax.lang.model.type.DeclaredType;
import javax.lang.model.type.TypeKind;
import javax.lang.model.type.TypeMirror;

/**
 * The rules of LANGUAGE.md, as far as the text of the class tells whether it keeps them. Where a rule allows more
 * than the class uses, such as catches and recursion, the looks are for the class as it is.
 */
public final class LanguageTest extends TreePathScanner<Void, Void> {
    private static final int MOST_CLASSES = 12;
    private static final int MOST_FIELDS = 20;
    private static final int MOST_LINES = 60;
    private static final int MOST_PARAMETERS = 7;
    private static final int DEEPEST_CALL = 8;
    /** The last two are what the compiler begins constructors with. */
    private static final Set<String> LIBRARY = Set.of("String.length", "String.charAt", "Math.max",
            "System.arraycopy", "Object.<init>", "Enum.<init>");
    private static final Set<String> EXCEPTIONS = Set.of("IllegalStateException", "IllegalArgumentException",
            "IndexOutOfBoundsException", "ArithmeticException", "NoSuchElementException");

    private final Source source;
    private final Calls calls = new Calls();
    private int classes = 0;

    private LanguageTest(Source source) {
        this.source = source;
    }

    public static void main(String[] args) throws Exception {
        LanguageTest test = new LanguageTest(Source.read(Path.of("src/main/java/WindElection.java")));
        test.rule(1, test.source.unit, "has no package", test.source.unit.getPackageName() == null);
        test.scan(test.source.unit, null);
        test.rule(11, test.source.unit, "has few classes", test.classes <= MOST_CLASSES);
        for (String name : Call.face().keySet()) {
            test.callsOf("WindElection." + name);
        }
        test.callsOf("WindElection.<init>");
        Due.finish();
    }

    private void rule(int number, Tree tree, String what, boolean keeps) {
        String text = tree.toString().strip().split("\n", 2)[0];
        Due.compare("LANGUAGE.md " + number + ", line " + source.firstLine(tree) + ": " + text + ": " + what,
                "" + keeps, "true");
    }

    private void isNotThere(int number, Tree tree) {
        rule(number, tree, tree.getKind() + " is not there", false);
    }

    private void callsOf(String method) {
        String chain = calls.deepest(method);
        Due.compare("LANGUAGE.md 8, " + chain + ": calls itself", "" + chain.endsWith("recursion"), "false");
        Due.compare("LANGUAGE.md 11, " + chain + ": is deep", "" + (Calls.depth(chain) > DEEPEST_CALL), "false");
    }

    // Classes, methods and variables

    @Override
    public Void visitClass(ClassTree tree, Void none) {
        classes++;
        Element element = source.element(getCurrentPath());
        boolean isOuter = tree.getSimpleName().contentEquals("WindElection");
        rule(1, tree, "is public only if it is the outer one",
                element.getModifiers().contains(Modifier.PUBLIC) == isOuter);
        rule(2, tree, "is static inside", isOuter || element.getModifiers().contains(Modifier.STATIC));
        long fields = element.getEnclosedElements().stream().filter(e -> e.getKind() == ElementKind.FIELD
                && !e.getModifiers().contains(Modifier.STATIC)).count();
        rule(11, tree, "has few fields", fields <= MOST_FIELDS);
        return super.visitClass(tree, none);
    }

    @Override
    public Void visitMethod(MethodTree tree, Void none) {
        Element element = source.element(getCurrentPath());
        String name = tree.getName().toString();
        boolean isOfTheFace = element.getModifiers().contains(Modifier.PUBLIC);
        rule(1, tree, "bears a name of the face only there", isOfTheFace || !Call.face().containsKey(name));
        rule(6, tree, "is neither equals, hashCode nor toString",
                !Set.of("equals", "hashCode", "toString").contains(name));
        rule(6, tree, "is not synchronized", !element.getModifiers().contains(Modifier.SYNCHRONIZED));
        rule(11, tree, "has few parameters", tree.getParameters().size() <= MOST_PARAMETERS);
        rule(11, tree, "is short", source.lines(tree) <= MOST_LINES);
        return super.visitMethod(tree, none);
    }

    @Override
    public Void visitVariable(VariableTree tree, Void none) {
        Element element = source.element(getCurrentPath());
        TypeMirror type = element.asType();
        rule(3, tree, "has a type that is allowed", isAllowed(type));
        if (element.getKind() == ElementKind.FIELD && element.getModifiers().contains(Modifier.STATIC)) {
            boolean isKept = tree.getInitializer() != null && tree.getInitializer().toString().equals("Word.values()");
            rule(5, tree, "is final", element.getModifiers().contains(Modifier.FINAL));
            rule(5, tree, "is a constant", isKept || tree.getInitializer() != null
                    && (type.getKind() == TypeKind.INT || type.toString().equals("java.lang.String")));
        }
        if (element.getKind() == ElementKind.FIELD && element.getEnclosingElement().getKind() == ElementKind.ENUM) {
            rule(2, tree, "is a field for an enum",
                    type.getKind().isPrimitive() || type.toString().equals("java.lang.String"));
        }
        return super.visitVariable(tree, none);
    }

    private static boolean isAllowed(TypeMirror type) {
        if (type.getKind() == TypeKind.ARRAY) {
            TypeMirror of = ((ArrayType) type).getComponentType();
            return of.getKind() != TypeKind.ARRAY && isAllowed(of) && !of.toString().equals("java.lang.String");
        }
        return type.getKind().isPrimitive() || type.toString().equals("java.lang.String")
                || type instanceof DeclaredType && Source.isOwn(((DeclaredType) type).asElement());
    }

    // What is called and made

    @Override
    public Void visitMethodInvocation(MethodInvocationTree tree, Void none) {
        Element called = source.element(getCurrentPath());
        String name = Source.name(called);
        rule(4, tree, "calls what is allowed", Source.isOwn(called) || LIBRARY.contains(name));
        rule(12, tree, "copies the constants of an enum once", !name.equals("Word.values") || method() == null);
        calls.add(caller(), name);
        return super.visitMethodInvocation(tree, none);
    }

    @Override
    public Void visitNewClass(NewClassTree tree, Void none) {
        Element made = source.element(getCurrentPath());
        boolean isThrown = getCurrentPath().getParentPath().getLeaf() instanceof ThrowTree;
        if (!isThrown) {
            rule(4, tree, "is a class inside", Source.isOwn(made));
            rule(12, tree, "is made in a constructor", isInConstructor());
            rule(12, tree, "is given nothing but literals",
                    tree.getArguments().stream().allMatch(LiteralTree.class::isInstance));
            calls.add(caller(), Source.name(made));
        }
        rule(2, tree, "has no body of its own", tree.getClassBody() == null || isEnumConstant());
        return super.visitNewClass(tree, none);
    }

    @Override
    public Void visitNewArray(NewArrayTree tree, Void none) {
        rule(3, tree, "has one dimension", tree.getDimensions().size() == 1 && tree.getInitializers() == null);
        rule(12, tree, "is made in a constructor", isInConstructor());
        return super.visitNewArray(tree, none);
    }

    private boolean isEnumConstant() {
        Element element = source.element(getCurrentPath().getParentPath());
        return element != null && element.getKind() == ElementKind.ENUM_CONSTANT;
    }

    /** The method that stands round a tree, null in what fields begin with. */
    private MethodTree method() {
        for (TreePath path = getCurrentPath(); path != null; path = path.getParentPath()) {
            if (path.getLeaf() instanceof MethodTree) {
                return (MethodTree) path.getLeaf();
            }
        }
        return null;
    }

    private boolean isInConstructor() {
        return method() == null || method().getReturnType() == null;
    }

    /** What fields begin with counts as part of the constructor. */
    private String caller() {
        TreePath path = getCurrentPath();
        while (!(path.getLeaf() instanceof ClassTree)) {
            path = path.getParentPath();
        }
        String in = ((ClassTree) path.getLeaf()).getSimpleName().toString();
        return in + "." + (isInConstructor() ? "<init>" : method().getName().toString());
    }

    // Exceptions

    @Override
    public Void visitThrow(ThrowTree tree, Void none) {
        boolean isNew = tree.getExpression() instanceof NewClassTree;
        rule(6, tree, "throws a new exception", isNew);
        if (isNew) {
            NewClassTree made = (NewClassTree) tree.getExpression();
            List<? extends ExpressionTree> arguments = made.getArguments();
            rule(6, tree, "throws one that is allowed", EXCEPTIONS.contains(made.getIdentifier().toString()));
            rule(6, tree, "has a written text", arguments.isEmpty()
                    || arguments.size() == 1 && arguments.get(0).getKind() == Tree.Kind.STRING_LITERAL);
        }
        rule(6, tree, "is not in a constructor", !isInConstructor());
        return super.visitThrow(tree, none);
    }

    @Override
    public Void visitTry(TryTree tree, Void none) {
        isNotThere(6, tree);
        return super.visitTry(tree, none);
    }

    @Override
    public Void visitSynchronized(SynchronizedTree tree, Void none) {
        isNotThere(6, tree);
        return super.visitSynchronized(tree, none);
    }

    @Override
    public Void visitAssert(AssertTree tree, Void none) {
        isNotThere(6, tree);
        return super.visitAssert(tree, none);
    }

    @Override
    public Void visitInstanceOf(InstanceOfTree tree, Void none) {
        isNotThere(6, tree);
        return super.visitInstanceOf(tree, none);
    }

    @Override
    public Void visitTypeCast(TypeCastTree tree, Void none) {
        TypeMirror type = source.type(new TreePath(getCurrentPath(), tree.getType()));
        rule(6, tree, "casts numbers alone", type.getKind().isPrimitive());
        return super.visitTypeCast(tree, none);
    }

    // Statements and expressions

    @Override
    public Void visitLambdaExpression(LambdaExpressionTree tree, Void none) {
        isNotThere(2, tree);
        return super.visitLambdaExpression(tree, none);
    }

    @Override
    public Void visitMemberReference(MemberReferenceTree tree, Void none) {
        isNotThere(2, tree);
        return super.visitMemberReference(tree, none);
    }

    @Override
    public Void visitForLoop(ForLoopTree tree, Void none) {
        rule(9, tree, "has an end", tree.getCondition() != null && tree.getUpdate().size() == 1);
        return super.visitForLoop(tree, none);
    }

    @Override
    public Void visitWhileLoop(WhileLoopTree tree, Void none) {
        rule(9, tree, "has an end", !tree.getCondition().toString().equals("(true)"));
        return super.visitWhileLoop(tree, none);
    }

    @Override
    public Void visitDoWhileLoop(DoWhileLoopTree tree, Void none) {
        rule(9, tree, "has an end", !tree.getCondition().toString().equals("(true)"));
        return super.visitDoWhileLoop(tree, none);
    }

    @Override
    public Void visitBinary(BinaryTree tree, Void none) {
        if (isText(tree.getLeftOperand()) || isText(tree.getRightOperand())) {
            rule(10, tree, "joins no texts", tree.getKind() != Tree.Kind.PLUS);
            rule(6, tree, "compares no texts", tree.getKind() == Tree.Kind.PLUS);
        }
        return super.visitBinary(tree, none);
    }

    @Override
    public Void visitCompoundAssignment(CompoundAssignmentTree tree, Void none) {
        rule(10, tree, "joins no texts", !isText(tree.getVariable()));
        return super.visitCompoundAssignment(tree, none);
    }

    private boolean isText(ExpressionTree tree) {
        return String.valueOf(source.type(new TreePath(getCurrentPath(), tree))).equals("java.lang.String");
    }

    @Override
    public Void visitLiteral(LiteralTree tree, Void none) {
        boolean isPlain = String.valueOf(tree.getValue()).chars().allMatch(sign -> sign >= 1 && sign <= 127);
        rule(4, tree, "has signs from 1 to 127", isPlain);
        return super.visitLiteral(tree, none);
    }

    @Override
    public Void visitImport(ImportTree tree, Void none) {
        String name = tree.getQualifiedIdentifier().toString();
        rule(4, tree, "imports what is allowed", name.equals("java.util.NoSuchElementException"));
        return null;
    }

    @Override
    public Void visitMemberSelect(MemberSelectTree tree, Void none) {
        isFieldOfItsOwn(tree);
        return super.visitMemberSelect(tree, none);
    }

    @Override
    public Void visitIdentifier(IdentifierTree tree, Void none) {
        isFieldOfItsOwn(tree);
        return super.visitIdentifier(tree, none);
    }

    private void isFieldOfItsOwn(Tree tree) {
        Element element = source.element(getCurrentPath());
        if (element != null && element.getKind() == ElementKind.FIELD) {
            boolean isLength = tree.toString().endsWith(".length");
            rule(4, tree, "is a field of its own", isLength || Source.isOwn(element));
        }
    }
}
