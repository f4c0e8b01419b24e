import com.sun.source.tree.ArrayAccessTree;
import com.sun.source.tree.AssertTree;
import com.sun.source.tree.AssignmentTree;
import com.sun.source.tree.BinaryTree;
import com.sun.source.tree.BlockTree;
import com.sun.source.tree.ClassTree;
import com.sun.source.tree.CompilationUnitTree;
import com.sun.source.tree.CompoundAssignmentTree;
import com.sun.source.tree.ExpressionTree;
import com.sun.source.tree.ForLoopTree;
import com.sun.source.tree.LambdaExpressionTree;
import com.sun.source.tree.LiteralTree;
import com.sun.source.tree.MemberReferenceTree;
import com.sun.source.tree.MethodInvocationTree;
import com.sun.source.tree.MethodTree;
import com.sun.source.tree.NewArrayTree;
import com.sun.source.tree.NewClassTree;
import com.sun.source.tree.ParenthesizedTree;
import com.sun.source.tree.SynchronizedTree;
import com.sun.source.tree.ThrowTree;
import com.sun.source.tree.Tree;
import com.sun.source.tree.TryTree;
import com.sun.source.tree.TypeCastTree;
import com.sun.source.tree.UnaryTree;
import com.sun.source.tree.VariableTree;
import com.sun.source.tree.WhileLoopTree;
import com.sun.source.util.JavacTask;
import com.sun.source.util.TreePath;
import com.sun.source.util.TreePathScanner;
import com.sun.source.util.Trees;
import java.io.IOException;
import java.io.UncheckedIOException;
import java.net.URI;
import java.util.ArrayList;
import java.util.HashMap;
import java.util.HashSet;
import java.util.List;
import java.util.Map;
import java.util.Set;
import java.util.TreeSet;
import javax.lang.model.element.Element;
import javax.lang.model.element.ElementKind;
import javax.lang.model.element.Modifier;
import javax.lang.model.type.ArrayType;
import javax.lang.model.type.TypeKind;
import javax.lang.model.type.TypeMirror;
import javax.tools.JavaCompiler;
import javax.tools.JavaFileObject;
import javax.tools.SimpleJavaFileObject;
import javax.tools.ToolProvider;

/**
 * Rules of LANGUAGE.md, looked up in the compiler's tree of a program. They are a little stricter than
 * the page: what it leaves but the class does not need (try, casts among own classes, recursion, lists,
 * objects made by calls) counts as a breach.
 */
final class LanguageRules {
    private static final int MOST_PARAMETERS = 7;
    private static final int MOST_LINES = 60;
    private static final int MOST_CLASSES = 12;
    private static final int MOST_FIELDS = 20;
    private static final int MOST_DEPTH = 8;
    private static final Set<String> LIBRARY = Set.of(
            "java.lang.Math.max(int,int)", "java.lang.Math.min(int,int)",
            "java.lang.System.arraycopy(java.lang.Object,int,java.lang.Object,int,int)");
    private static final Set<String> THROWN = Set.of(
            "IllegalStateException", "IllegalArgumentException", "IndexOutOfBoundsException");
    private static final Set<TypeKind> CONSTANT_ROWS =
            Set.of(TypeKind.INT, TypeKind.LONG, TypeKind.CHAR, TypeKind.BYTE);

    private final JavaCompiler compiler;

    private LanguageRules(JavaCompiler compiler) {
        this.compiler = compiler;
    }

    /** Null where Java comes without its compiler. */
    static LanguageRules ofCompiler() {
        JavaCompiler compiler = ToolProvider.getSystemJavaCompiler();
        return compiler == null ? null : new LanguageRules(compiler);
    }

    /** Each begins with "rule", its number and a comma. */
    List<String> breachesOf(String program) {
        List<JavaFileObject> files = List.of(new Source(program));
        JavacTask task = (JavacTask) compiler.getTask(null, null, error -> { }, null, null, files);
        try {
            CompilationUnitTree unit = task.parse().iterator().next();
            task.analyze();
            Scan scan = new Scan(unit, Trees.instance(task));
            scan.wholeFile();
            return scan.breaches;
        } catch (IOException e) {
            throw new UncheckedIOException(e);
        }
    }

    private static final class Source extends SimpleJavaFileObject {
        private final String text;

        Source(String text) {
            super(URI.create("string:///CoilPrices.java"), Kind.SOURCE);
            this.text = text;
        }

        @Override
        public CharSequence getCharContent(boolean ignoreErrors) {
            return text;
        }
    }

    private static final class Scan extends TreePathScanner<Void, Void> {
        final List<String> breaches = new ArrayList<>();
        private final CompilationUnitTree unit;
        private final Trees trees;
        private final Map<Element, Set<Element>> calls = new HashMap<>();
        private int classes = 0;

        Scan(CompilationUnitTree unit, Trees trees) {
            this.unit = unit;
            this.trees = trees;
        }

        void wholeFile() {
            if (unit.getPackage() != null || !unit.getImports().isEmpty() || unit.getTypeDecls().size() != 1) {
                breaches.add("rule 1, the file has a package, imports or several classes");
            }
            scan(unit, null);
            if (classes > MOST_CLASSES) {
                breaches.add("rule 11, there are " + classes + " classes");
            }
            for (Element method : calls.keySet()) {
                depth(method, new ArrayList<>());
            }
        }

        private void breach(int rule, String what) {
            breaches.add("rule " + rule + ", line " + lineOf(false) + ": " + what);
        }

        private long lineOf(boolean end) {
            Tree tree = getCurrentPath().getLeaf();
            long at = end ? trees.getSourcePositions().getEndPosition(unit, tree)
                    : trees.getSourcePositions().getStartPosition(unit, tree);
            return at < 0 ? 0 : unit.getLineMap().getLineNumber(at);
        }

        private Element here() {
            return trees.getElement(getCurrentPath());
        }

        private TypeMirror typeOf(Tree part) {
            TypeMirror type = trees.getTypeMirror(new TreePath(getCurrentPath(), part));
            return type == null ? trees.getTypeMirror(getCurrentPath()) : type;
        }

        /** The closest method around; null in an initialiser of a field. */
        private MethodTree methodAround() {
            for (TreePath path = getCurrentPath(); path != null; path = path.getParentPath()) {
                if (path.getLeaf() instanceof MethodTree) {
                    return (MethodTree) path.getLeaf();
                }
                if (path.getLeaf() instanceof ClassTree) {
                    return null;
                }
            }
            return null;
        }

        private boolean isConstructorAround() {
            return methodAround() != null && methodAround().getName().contentEquals("<init>");
        }

        private static boolean isOwn(Element element) {
            Element outer = element;
            while (outer != null && outer.getEnclosingElement() != null
                    && outer.getEnclosingElement().getKind() != ElementKind.PACKAGE) {
                outer = outer.getEnclosingElement();
            }
            return outer != null && outer.getSimpleName().contentEquals("CoilPrices");
        }

        private static boolean isText(TypeMirror type) {
            return type != null && type.toString().equals("java.lang.String");
        }

        private static boolean isFloating(TypeMirror type) {
            return type != null && (type.getKind() == TypeKind.FLOAT || type.getKind() == TypeKind.DOUBLE);
        }

        /** One row of numbers or own objects, or two dimensions of numbers. */
        private static boolean isLeft(TypeMirror type, boolean inRow) {
            if (type.getKind() == TypeKind.ARRAY) {
                TypeMirror part = ((ArrayType) type).getComponentType();
                boolean isTable = part.getKind() == TypeKind.ARRAY
                        && ((ArrayType) part).getComponentType().getKind().isPrimitive();
                return !inRow && (isTable || part.getKind() != TypeKind.ARRAY && isLeft(part, true));
            }
            return type.getKind().isPrimitive() || type.getKind() == TypeKind.VOID
                    || type.toString().startsWith("CoilPrices") || isText(type) && !inRow
                    || type.toString().equals("java.lang.StringBuilder") && !inRow;
        }

        @Override
        public Void visitClass(ClassTree tree, Void none) {
            classes++;
            Tree around = getCurrentPath().getParentPath().getLeaf();
            boolean isOuter = around instanceof CompilationUnitTree;
            if (!isOuter && !(around instanceof ClassTree)) {
                breach(2, "a class in a method");
            } else if (!isOuter && !tree.getModifiers().getFlags().contains(Modifier.STATIC)) {
                breach(1, "a class inside that is not static");
            }
            fields(tree, isOuter);
            return super.visitClass(tree, none);
        }

        private void fields(ClassTree tree, boolean isOuter) {
            int fields = 0;
            for (Tree member : tree.getMembers()) {
                if (member instanceof BlockTree) {
                    breach(5, "an initialiser block");
                }
                if (member instanceof VariableTree) {
                    Set<Modifier> flags = ((VariableTree) member).getModifiers().getFlags();
                    fields += flags.contains(Modifier.STATIC) ? 0 : 1;
                    boolean isShown = !flags.contains(Modifier.PRIVATE);
                    if (isOuter && isShown && !((VariableTree) member).getName().contentEquals("NONE")) {
                        breach(1, "a field that is not private");
                    }
                }
            }
            if (fields > MOST_FIELDS) {
                breach(11, fields + " fields");
            }
        }

        @Override
        public Void visitMethod(MethodTree tree, Void none) {
            Element method = here();
            calls.computeIfAbsent(method, key -> new HashSet<>());
            Set<Modifier> flags = tree.getModifiers().getFlags();
            boolean isOuter = getCurrentPath().getParentPath().getParentPath().getLeaf() == unit;
            if (isOuter && !flags.contains(Modifier.PUBLIC) && !flags.contains(Modifier.PRIVATE)) {
                breach(1, "neither public nor private: " + tree.getName());
            }
            if (tree.getParameters().size() > MOST_PARAMETERS) {
                breach(11, "too many parameters: " + tree.getName());
            }
            if (lineOf(true) - lineOf(false) >= MOST_LINES) {
                breach(11, "too long: " + tree.getName());
            }
            if (tree.getReturnType() != null && !isLeft(typeOf(tree.getReturnType()), false)) {
                breach(3, "answers a type that is not left: " + tree.getReturnType());
            }
            return super.visitMethod(tree, none);
        }

        @Override
        public Void visitVariable(VariableTree tree, Void none) {
            TypeMirror type = trees.getTypeMirror(getCurrentPath());
            if (type != null && !isLeft(type, false)) {
                breach(3, "a type that is not left: " + type);
            }
            if (tree.getModifiers().getFlags().contains(Modifier.STATIC)) {
                constant(tree, type);
            }
            return super.visitVariable(tree, none);
        }

        private void constant(VariableTree tree, TypeMirror type) {
            boolean isFinal = tree.getModifiers().getFlags().contains(Modifier.FINAL);
            boolean isRow = type.getKind() == TypeKind.ARRAY
                    && CONSTANT_ROWS.contains(((ArrayType) type).getComponentType().getKind())
                    && tree.getInitializer() instanceof NewArrayTree
                    && ((NewArrayTree) tree.getInitializer()).getInitializers() != null;
            boolean isNumber = type.getKind() == TypeKind.INT || type.getKind() == TypeKind.LONG
                    || type.getKind() == TypeKind.BOOLEAN || type.getKind() == TypeKind.CHAR || isText(type);
            if (!isFinal || !isRow && !isNumber) {
                breach(5, "static, but no constant: " + tree.getName());
            }
        }

        @Override
        public Void visitMethodInvocation(MethodInvocationTree tree, Void none) {
            Element called = here();
            boolean isStartOfConstructor = called != null && called.getKind() == ElementKind.CONSTRUCTOR;
            if (called != null && isOwn(called)) {
                note(called);
            } else if (called != null && !isStartOfConstructor) {
                String name = called.getEnclosingElement() + "." + called;
                if (!LIBRARY.contains(name)) {
                    breach(4, "a call of " + name);
                }
            }
            return super.visitMethodInvocation(tree, none);
        }

        private void note(Element called) {
            MethodTree caller = methodAround();
            if (caller != null) {
                TreePath path = getCurrentPath();
                while (path.getLeaf() != caller) {
                    path = path.getParentPath();
                }
                calls.computeIfAbsent(trees.getElement(path), key -> new HashSet<>()).add(called);
            }
        }

        /** How deep the calls of a method go, itself counted. */
        private int depth(Element method, List<Element> open) {
            if (open.contains(method)) {
                breaches.add("rule 8, a recursion of " + method);
                return MOST_DEPTH;
            }
            if (open.size() >= MOST_DEPTH) {
                breaches.add("rule 11, calls go too deep: " + open);
                return MOST_DEPTH;
            }
            open.add(method);
            int deepest = 0;
            for (Element called : calls.getOrDefault(method, Set.of())) {
                deepest = Math.max(deepest, depth(called, open));
            }
            open.remove(open.size() - 1);
            return deepest + 1;
        }

        @Override
        public Void visitNewClass(NewClassTree tree, Void none) {
            boolean isThrown = getCurrentPath().getParentPath().getLeaf() instanceof ThrowTree;
            Element made = here();
            if (!isThrown) {
                mustBeMadeWithTheObject();
                if (made != null && !isOwn(made)) {
                    breach(4, "a new " + tree.getIdentifier());
                }
            }
            if (tree.getClassBody() != null) {
                breach(2, "a class without a name");
            }
            return super.visitNewClass(tree, none);
        }

        @Override
        public Void visitNewArray(NewArrayTree tree, Void none) {
            mustBeMadeWithTheObject();
            return super.visitNewArray(tree, none);
        }

        private void mustBeMadeWithTheObject() {
            if (methodAround() != null && !isConstructorAround()) {
                breach(12, "a call makes an object");
            }
        }

        @Override
        public Void visitThrow(ThrowTree tree, Void none) {
            if (isConstructorAround()) {
                breach(6, "a throw in a constructor");
            }
            if (!(tree.getExpression() instanceof NewClassTree)) {
                breach(6, "a throw of " + tree.getExpression());
                return super.visitThrow(tree, none);
            }
            NewClassTree made = (NewClassTree) tree.getExpression();
            boolean hasPlainText = true;
            for (ExpressionTree argument : made.getArguments()) {
                hasPlainText &= argument instanceof LiteralTree && made.getArguments().size() == 1;
            }
            if (!hasPlainText || !THROWN.contains(made.getIdentifier().toString())) {
                breach(6, "a throw of " + made);
            }
            return super.visitThrow(tree, none);
        }

        @Override
        public Void visitTry(TryTree tree, Void none) {
            breach(6, "a try");
            return super.visitTry(tree, none);
        }

        @Override
        public Void visitSynchronized(SynchronizedTree tree, Void none) {
            breach(6, "a synchronized");
            return super.visitSynchronized(tree, none);
        }

        @Override
        public Void visitAssert(AssertTree tree, Void none) {
            breach(6, "an assert");
            return super.visitAssert(tree, none);
        }

        @Override
        public Void visitLambdaExpression(LambdaExpressionTree tree, Void none) {
            breach(2, "a lambda");
            return super.visitLambdaExpression(tree, none);
        }

        @Override
        public Void visitMemberReference(MemberReferenceTree tree, Void none) {
            breach(2, "a method reference");
            return super.visitMemberReference(tree, none);
        }

        @Override
        public Void visitTypeCast(TypeCastTree tree, Void none) {
            if (!typeOf(tree.getType()).getKind().isPrimitive()) {
                breach(6, "a cast to " + tree.getType());
            }
            return super.visitTypeCast(tree, none);
        }

        @Override
        public Void visitBinary(BinaryTree tree, Void none) {
            boolean isFloating = isFloating(typeOf(tree.getLeftOperand())) || isFloating(typeOf(tree.getRightOperand()));
            boolean isText = isText(typeOf(tree.getLeftOperand())) || isText(typeOf(tree.getRightOperand()));
            if (tree.getKind() == Tree.Kind.REMAINDER && isFloating) {
                breach(3, "a rest of floats");
            }
            if (isText) {
                breach(10, "an operation on texts: " + tree);
            }
            return super.visitBinary(tree, none);
        }

        @Override
        public Void visitCompoundAssignment(CompoundAssignmentTree tree, Void none) {
            if (isText(typeOf(tree.getVariable()))) {
                breach(10, "an operation on texts: " + tree);
            }
            if (tree.getKind() == Tree.Kind.REMAINDER_ASSIGNMENT && isFloating(typeOf(tree.getVariable()))) {
                breach(3, "a rest of floats");
            }
            mustNotBeConstantRow(tree.getVariable());
            return super.visitCompoundAssignment(tree, none);
        }

        @Override
        public Void visitAssignment(AssignmentTree tree, Void none) {
            mustNotBeConstantRow(tree.getVariable());
            return super.visitAssignment(tree, none);
        }

        @Override
        public Void visitUnary(UnaryTree tree, Void none) {
            mustNotBeConstantRow(tree.getExpression());
            return super.visitUnary(tree, none);
        }

        private void mustNotBeConstantRow(ExpressionTree target) {
            if (target instanceof ArrayAccessTree) {
                TreePath place = new TreePath(getCurrentPath(), target);
                Element row = trees.getElement(new TreePath(place, ((ArrayAccessTree) target).getExpression()));
                if (row != null && row.getModifiers().contains(Modifier.STATIC)) {
                    breach(5, "a change of the constant row " + row);
                }
            }
        }

        @Override
        public Void visitWhileLoop(WhileLoopTree tree, Void none) {
            mustHaveAnEnd(tree.getCondition());
            return super.visitWhileLoop(tree, none);
        }

        @Override
        public Void visitForLoop(ForLoopTree tree, Void none) {
            mustHaveAnEnd(tree.getCondition());
            return super.visitForLoop(tree, none);
        }

        private void mustHaveAnEnd(ExpressionTree condition) {
            ExpressionTree bare = condition;
            while (bare instanceof ParenthesizedTree) {
                bare = ((ParenthesizedTree) bare).getExpression();
            }
            if (bare == null || bare instanceof LiteralTree) {
                breach(9, "a loop without an end");
            }
        }
    }
}
