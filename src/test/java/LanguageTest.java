import com.sun.source.tree.AssertTree;
import com.sun.source.tree.BinaryTree;
import com.sun.source.tree.BlockTree;
import com.sun.source.tree.CatchTree;
import com.sun.source.tree.ClassTree;
import com.sun.source.tree.CompilationUnitTree;
import com.sun.source.tree.CompoundAssignmentTree;
import com.sun.source.tree.DoWhileLoopTree;
import com.sun.source.tree.EnhancedForLoopTree;
import com.sun.source.tree.ExpressionTree;
import com.sun.source.tree.ForLoopTree;
import com.sun.source.tree.ImportTree;
import com.sun.source.tree.LambdaExpressionTree;
import com.sun.source.tree.LiteralTree;
import com.sun.source.tree.MemberReferenceTree;
import com.sun.source.tree.MethodInvocationTree;
import com.sun.source.tree.MethodTree;
import com.sun.source.tree.NewClassTree;
import com.sun.source.tree.SynchronizedTree;
import com.sun.source.tree.ThrowTree;
import com.sun.source.tree.Tree;
import com.sun.source.tree.TryTree;
import com.sun.source.tree.VariableTree;
import com.sun.source.tree.WhileLoopTree;
import com.sun.source.util.JavacTask;
import com.sun.source.util.TreePath;
import com.sun.source.util.TreePathScanner;
import com.sun.source.util.Trees;
import java.io.IOException;
import java.nio.file.Path;
import java.util.List;
import java.util.Map;
import java.util.Set;
import java.util.TreeMap;
import java.util.TreeSet;
import javax.lang.model.element.Element;
import javax.lang.model.element.ElementKind;
import javax.lang.model.element.ExecutableElement;
import javax.lang.model.element.Modifier;
import javax.lang.model.element.TypeElement;
import javax.lang.model.type.ArrayType;
import javax.lang.model.type.DeclaredType;
import javax.lang.model.type.TypeKind;
import javax.lang.model.type.TypeMirror;
import javax.tools.JavaCompiler;
import javax.tools.StandardJavaFileManager;
import javax.tools.ToolProvider;

/**
 * The program keeps to ../shared/LANGUAGE.md, as far as can be read off it: the number of the rule stands ahead of
 * each fault. Rule 1 is FaceTest's; that nothing throws but by a throw (7) is seen by the tests that make calls.
 */
public final class LanguageTest {
    private static final Set<String> IMPORTS = Set.of("java.util.ArrayList", "java.util.List", "java.util.Arrays",
        "java.util.Iterator", "java.util.NoSuchElementException");
    private static final Map<String, Set<String>> LIBRARY = Map.of(
        "java.lang.String", Set.of("length", "charAt", "isEmpty", "equals", "indexOf", "substring", "toCharArray"),
        "java.lang.StringBuilder", Set.of("append", "charAt", "setCharAt", "setLength", "deleteCharAt", "reverse",
            "length", "toString"),
        "java.util.ArrayList", Set.of("add", "get", "set", "remove", "size", "isEmpty", "clear"),
        "java.util.List", Set.of("add", "get", "set", "remove", "size", "isEmpty", "clear", "of"),
        "java.lang.System", Set.of("arraycopy"),
        "java.util.Arrays", Set.of("copyOf", "copyOfRange", "fill"),
        "java.lang.Object", Set.of("clone", "<init>"),
        "java.lang.Enum", Set.of("<init>"),
        "java.lang.Record", Set.of("<init>"));
    /** Their static functions over int and long are all allowed, but for those whose name ends so. */
    private static final Set<String> FUNCTIONS = Set.of("java.lang.Math", "java.lang.Integer", "java.lang.Long");
    private static final String THROWING_FUNCTIONS = "Exact";
    private static final Set<String> EXCEPTIONS = Set.of("IllegalStateException", "IllegalArgumentException",
        "IndexOutOfBoundsException", "ArithmeticException", "UnsupportedOperationException",
        "NoSuchElementException", "RuntimeException");
    private static final Set<String> OBJECT_METHODS = Set.of("equals", "hashCode", "toString");
    private static final Set<String> LIBRARY_TYPES = Set.of("java.lang.String", "java.lang.StringBuilder",
        "java.lang.Integer", "java.util.ArrayList", "java.util.List", "java.util.Iterator");
    private static final Set<String> MADE_TYPES = Set.of("java.lang.String", "java.lang.StringBuilder",
        "java.util.ArrayList");

    private static final int MOST_PARAMETERS = 7;
    private static final int MOST_LINES_OF_A_METHOD = 60;
    private static final int DEEPEST_CALLS = 8;
    private static final int MOST_CLASSES = 12;
    private static final int MOST_FIELDS = 20;

    private static int wrong = 0;

    public static void main(String[] args) throws IOException {
        JavaCompiler compiler = ToolProvider.getSystemJavaCompiler();
        StandardJavaFileManager files = compiler.getStandardFileManager(null, null, null);
        JavacTask task = (JavacTask) compiler.getTask(null, files, null, List.of("--release", "17", "-proc:none"), null,
            files.getJavaFileObjects(Path.of("src/main/java/PosterTypes.java")));
        CompilationUnitTree program = task.parse().iterator().next();
        task.analyze();
        Reader reader = new Reader(program, Trees.instance(task));
        reader.scan(program, null);
        reader.callsAreNotTooDeep();
        System.out.println(wrong == 0 ? "the program keeps to the language" : wrong + " wrong");
        System.exit(wrong == 0 ? 0 : 1);
    }

    private static final class Reader extends TreePathScanner<Void, Void> {
        private final CompilationUnitTree program;
        private final Trees trees;
        private final Map<String, Set<String>> calls = new TreeMap<>();
        private String method = "";
        private int classes = 0;

        Reader(CompilationUnitTree program, Trees trees) {
            this.program = program;
            this.trees = trees;
        }

        private void fault(int rule, Tree tree, String text) {
            wrong++;
            System.out.println("rule " + rule + ", line " + line(start(tree)) + ": " + text);
        }

        private long start(Tree tree) {
            return trees.getSourcePositions().getStartPosition(program, tree);
        }

        private long end(Tree tree) {
            return trees.getSourcePositions().getEndPosition(program, tree);
        }

        private long line(long position) {
            return position < 0 ? 0 : program.getLineMap().getLineNumber(position);
        }

        private TypeMirror type(Tree tree) {
            return trees.getTypeMirror(new TreePath(getCurrentPath(), tree));
        }

        private boolean isOf(Tree tree, String name) {
            TypeMirror type = type(tree);
            return type != null && type.toString().equals(name);
        }

        private static boolean isOwn(String name) {
            return name.equals("PosterTypes") || name.startsWith("PosterTypes.");
        }

        // ---- the file and its classes

        @Override
        public Void visitCompilationUnit(CompilationUnitTree tree, Void none) {
            if (tree.getPackage() != null || tree.getTypeDecls().size() != 1) {
                fault(1, tree, "one class without a package");
            }
            return super.visitCompilationUnit(tree, none);
        }

        @Override
        public Void visitImport(ImportTree tree, Void none) {
            if (!IMPORTS.contains(tree.getQualifiedIdentifier().toString()) || tree.isStatic()) {
                fault(4, tree, "import of " + tree.getQualifiedIdentifier());
            }
            return null;
        }

        @Override
        public Void visitClass(ClassTree tree, Void none) {
            classes++;
            if (classes > MOST_CLASSES) {
                fault(11, tree, "more than " + MOST_CLASSES + " classes");
            }
            Tree around = getCurrentPath().getParentPath().getLeaf();
            if (!(around instanceof ClassTree) && !(around instanceof CompilationUnitTree)
                    && !(around instanceof NewClassTree)) {
                fault(2, tree, "a local class");
            }
            int fields = 0;
            for (Tree member : tree.getMembers()) {
                if (member instanceof VariableTree field && !isStatic(field)) {
                    fields++;
                }
                if (member instanceof BlockTree block && block.isStatic()) {
                    fault(5, member, "a static initialiser");
                }
            }
            if (fields > MOST_FIELDS) {
                fault(11, tree, fields + " fields");
            }
            return super.visitClass(tree, none);
        }

        private static boolean isStatic(VariableTree field) {
            return field.getModifiers().getFlags().contains(Modifier.STATIC);
        }

        // ---- fields, variables and their types

        @Override
        public Void visitVariable(VariableTree tree, Void none) {
            Element element = trees.getElement(getCurrentPath());
            if (element.getKind() != ElementKind.ENUM_CONSTANT && !isAllowed(element.asType())) {
                fault(3, tree, tree.getName() + " is of the type " + element.asType());
            }
            if (isStatic(tree) && element.getKind() == ElementKind.FIELD) {
                staticField(tree, element.asType());
            }
            return super.visitVariable(tree, none);
        }

        private void staticField(VariableTree tree, TypeMirror type) {
            boolean isConstant = type.getKind() == TypeKind.ARRAY
                || Set.of("int", "long", "boolean", "char", "java.lang.String").contains(type.toString());
            if (!tree.getModifiers().getFlags().contains(Modifier.FINAL) || !isConstant) {
                fault(5, tree, "static field " + tree.getName());
            }
        }

        private boolean isAllowed(TypeMirror type) {
            if (type instanceof ArrayType array) {
                TypeMirror part = array.getComponentType();
                return part instanceof ArrayType inner ? inner.getComponentType().getKind().isPrimitive()
                    : isAllowed(part);
            }
            if (type instanceof DeclaredType declared) {
                String name = ((TypeElement) declared.asElement()).getQualifiedName().toString();
                return (isOwn(name) || LIBRARY_TYPES.contains(name))
                    && declared.getTypeArguments().stream().allMatch(this::isAllowed);
            }
            TypeKind kind = type.getKind();
            return kind.isPrimitive() || kind == TypeKind.VOID || kind == TypeKind.TYPEVAR;
        }

        // ---- methods and their calls

        @Override
        public Void visitMethod(MethodTree tree, Void none) {
            String before = method;
            method = name(trees.getElement(getCurrentPath()));
            calls.computeIfAbsent(method, first -> new TreeSet<>());
            if (tree.getParameters().size() > MOST_PARAMETERS) {
                fault(11, tree, tree.getName() + " takes " + tree.getParameters().size() + " parameters");
            }
            long lines = line(end(tree)) - line(start(tree)) + 1;
            if (lines > MOST_LINES_OF_A_METHOD) {
                fault(11, tree, tree.getName() + " has " + lines + " lines");
            }
            if (OBJECT_METHODS.contains(tree.getName().toString())) {
                fault(6, tree, "a method " + tree.getName());
            }
            if (tree.getModifiers().getFlags().contains(Modifier.SYNCHRONIZED)) {
                fault(6, tree, "synchronized");
            }
            if (tree.getReturnType() != null && !isAllowed(type(tree.getReturnType()))) {
                fault(3, tree, tree.getName() + " answers a " + tree.getReturnType());
            }
            super.visitMethod(tree, none);
            method = before;
            return null;
        }

        private static String name(Element called) {
            return called.getEnclosingElement() + "." + called;
        }

        @Override
        public Void visitMethodInvocation(MethodInvocationTree tree, Void none) {
            call(tree, trees.getElement(new TreePath(getCurrentPath(), tree.getMethodSelect())));
            return super.visitMethodInvocation(tree, none);
        }

        private void call(Tree tree, Element called) {
            String owner = ((TypeElement) called.getEnclosingElement()).getQualifiedName().toString();
            String simple = called.getSimpleName().toString();
            if (isOwn(owner)) {
                calls.computeIfAbsent(method, first -> new TreeSet<>()).add(name(called));
            } else if (FUNCTIONS.contains(owner)) {
                if (simple.endsWith(THROWING_FUNCTIONS) || !isOverIntAndLong((ExecutableElement) called)) {
                    fault(4, tree, "call of " + owner + "." + simple);
                }
            } else if (!LIBRARY.getOrDefault(owner, Set.of()).contains(simple) && !owner.equals("Array")) {
                fault(4, tree, "call of " + owner + "." + simple);
            }
        }

        private static boolean isOverIntAndLong(ExecutableElement function) {
            return function.getModifiers().contains(Modifier.STATIC) && function.getParameters().stream()
                .allMatch(one -> one.asType().getKind() == TypeKind.INT || one.asType().getKind() == TypeKind.LONG);
        }

        @Override
        public Void visitNewClass(NewClassTree tree, Void none) {
            Element made = trees.getElement(new TreePath(getCurrentPath(), tree.getIdentifier()));
            String name = ((TypeElement) made).getQualifiedName().toString();
            if (isOwn(name)) {
                call(tree, trees.getElement(getCurrentPath()));
            } else if (!MADE_TYPES.contains(name)
                    && !(getCurrentPath().getParentPath().getLeaf() instanceof ThrowTree)) {
                fault(4, tree, "new " + name);
            }
            return super.visitNewClass(tree, none);
        }

        void callsAreNotTooDeep() {
            for (String first : calls.keySet()) {
                if (depth(first, 1) > DEEPEST_CALLS) {
                    wrong++;
                    System.out.println("rule 11 (or 8, if they come round): the calls behind " + first
                        + " go deeper than " + DEEPEST_CALLS);
                }
            }
        }

        private int depth(String from, int above) {
            int deepest = above;
            if (above <= DEEPEST_CALLS) {
                for (String next : calls.getOrDefault(from, Set.of())) {
                    deepest = Math.max(deepest, depth(next, above + 1));
                }
            }
            return deepest;
        }

        // ---- exceptions

        @Override
        public Void visitThrow(ThrowTree tree, Void none) {
            boolean isPlain = tree.getExpression() instanceof NewClassTree made
                && EXCEPTIONS.contains(made.getIdentifier().toString())
                && (made.getArguments().isEmpty()
                    || made.getArguments().size() == 1 && made.getArguments().get(0) instanceof LiteralTree);
            if (!isPlain || isInConstructor()) {
                fault(6, tree, "" + tree);
            }
            return super.visitThrow(tree, none);
        }

        private boolean isInConstructor() {
            for (Tree around : getCurrentPath()) {
                if (around instanceof MethodTree inside) {
                    return inside.getReturnType() == null;
                }
            }
            return true;
        }

        @Override
        public Void visitTry(TryTree tree, Void none) {
            if (tree.getFinallyBlock() != null || !tree.getResources().isEmpty()) {
                fault(6, tree, "finally, or try with resources");
            }
            return super.visitTry(tree, none);
        }

        @Override
        public Void visitCatch(CatchTree tree, Void none) {
            if (!EXCEPTIONS.contains(tree.getParameter().getType().toString())) {
                fault(6, tree, "catch of " + tree.getParameter().getType());
            }
            return scan(tree.getBlock(), none);
        }

        // ---- what is left out

        @Override
        public Void visitLambdaExpression(LambdaExpressionTree tree, Void none) {
            fault(2, tree, "a lambda");
            return null;
        }

        @Override
        public Void visitMemberReference(MemberReferenceTree tree, Void none) {
            fault(2, tree, "a method reference");
            return null;
        }

        @Override
        public Void visitSynchronized(SynchronizedTree tree, Void none) {
            fault(6, tree, "synchronized");
            return null;
        }

        @Override
        public Void visitAssert(AssertTree tree, Void none) {
            fault(6, tree, "assert");
            return null;
        }

        @Override
        public Void visitLiteral(LiteralTree tree, Void none) {
            if (tree.getValue() instanceof String text && !text.chars().allMatch(sign -> sign >= 1 && sign <= 127)) {
                fault(4, tree, "a constant text of other signs than 1 to 127");
            }
            return null;
        }

        @Override
        public Void visitBinary(BinaryTree tree, Void none) {
            boolean isOfTexts = isOf(tree.getLeftOperand(), "java.lang.String")
                && isOf(tree.getRightOperand(), "java.lang.String");
            boolean isOfIntegers = isOf(tree.getLeftOperand(), "java.lang.Integer")
                && isOf(tree.getRightOperand(), "java.lang.Integer");
            boolean isComparison = tree.getKind() == Tree.Kind.EQUAL_TO || tree.getKind() == Tree.Kind.NOT_EQUAL_TO;
            if (isComparison && (isOfTexts || isOfIntegers)) {
                fault(6, tree, "" + tree);
            }
            if (tree.getKind() == Tree.Kind.PLUS && isOf(tree, "java.lang.String")) {
                fault(10, tree, "texts joined by +");
            }
            if (tree.getKind() == Tree.Kind.REMAINDER && (isOf(tree, "double") || isOf(tree, "float"))) {
                fault(3, tree, "" + tree);
            }
            return super.visitBinary(tree, none);
        }

        @Override
        public Void visitCompoundAssignment(CompoundAssignmentTree tree, Void none) {
            if (isOf(tree.getVariable(), "java.lang.String")) {
                fault(10, tree, "texts joined by +=");
            }
            return super.visitCompoundAssignment(tree, none);
        }

        // ---- loops

        private void loop(Tree tree, ExpressionTree condition) {
            String text = condition == null ? "true" : condition.toString().replaceAll("[()]", "");
            if (text.equals("true")) {
                fault(9, tree, "a loop without an end in its own line");
            }
        }

        @Override
        public Void visitForLoop(ForLoopTree tree, Void none) {
            loop(tree, tree.getCondition());
            return super.visitForLoop(tree, none);
        }

        @Override
        public Void visitWhileLoop(WhileLoopTree tree, Void none) {
            loop(tree, tree.getCondition());
            return super.visitWhileLoop(tree, none);
        }

        @Override
        public Void visitDoWhileLoop(DoWhileLoopTree tree, Void none) {
            loop(tree, tree.getCondition());
            return super.visitDoWhileLoop(tree, none);
        }

        @Override
        public Void visitEnhancedForLoop(EnhancedForLoopTree tree, Void none) {
            TypeMirror over = type(tree.getExpression());
            if (over == null || over.getKind() != TypeKind.ARRAY) {
                fault(12, tree, "a loop over " + over + " makes an iterator: take it by index");
            }
            return super.visitEnhancedForLoop(tree, none);
        }
    }
}
