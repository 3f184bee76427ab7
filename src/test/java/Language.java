import com.sun.source.tree.ArrayAccessTree;
import com.sun.source.tree.AssertTree;
import com.sun.source.tree.BinaryTree;
import com.sun.source.tree.BlockTree;
import com.sun.source.tree.CatchTree;
import com.sun.source.tree.ClassTree;
import com.sun.source.tree.CompilationUnitTree;
import com.sun.source.tree.CompoundAssignmentTree;
import com.sun.source.tree.DoWhileLoopTree;
import com.sun.source.tree.EnhancedForLoopTree;
import com.sun.source.tree.ExpressionTree;
import com.sun.source.tree.ForLoopTree;
import com.sun.source.tree.IdentifierTree;
import com.sun.source.tree.InstanceOfTree;
import com.sun.source.tree.LambdaExpressionTree;
import com.sun.source.tree.LiteralTree;
import com.sun.source.tree.MemberReferenceTree;
import com.sun.source.tree.MemberSelectTree;
import com.sun.source.tree.MethodInvocationTree;
import com.sun.source.tree.MethodTree;
import com.sun.source.tree.NewArrayTree;
import com.sun.source.tree.NewClassTree;
import com.sun.source.tree.SynchronizedTree;
import com.sun.source.tree.ThrowTree;
import com.sun.source.tree.Tree;
import com.sun.source.tree.TryTree;
import com.sun.source.tree.TypeCastTree;
import com.sun.source.tree.VariableTree;
import com.sun.source.tree.WhileLoopTree;
import com.sun.source.util.JavacTask;
import com.sun.source.util.TreePath;
import com.sun.source.util.TreePathScanner;
import com.sun.source.util.TreeScanner;
import com.sun.source.util.Trees;
import java.io.IOException;
import java.net.URI;
import java.util.ArrayList;
import java.util.LinkedHashMap;
import java.util.LinkedHashSet;
import java.util.List;
import java.util.Map;
import java.util.Set;
import java.util.TreeSet;
import javax.lang.model.element.Element;
import javax.lang.model.element.ElementKind;
import javax.lang.model.element.ExecutableElement;
import javax.lang.model.element.Modifier;
import javax.lang.model.element.TypeElement;
import javax.lang.model.element.VariableElement;
import javax.lang.model.type.ArrayType;
import javax.lang.model.type.DeclaredType;
import javax.lang.model.type.TypeKind;
import javax.lang.model.type.TypeMirror;
import javax.tools.Diagnostic;
import javax.tools.DiagnosticCollector;
import javax.tools.JavaFileObject;
import javax.tools.SimpleJavaFileObject;
import javax.tools.ToolProvider;

/**
 * What in a source is outside LANGUAGE.md, as far as the source alone shows it. Where a rule leaves something only
 * under a condition that cannot be seen here (a recursion, a loop without a counter), that is told too: a class that
 * has none is surely within the rule. Of rule 7 it sees only whether an index, a divisor, a length or what is cast was
 * looked at in its method at all, and not how.
 */
final class Language extends TreePathScanner<Void, Void> {
    private static final int MOST_PARAMETERS = 7;
    private static final int MOST_LINES = 60;
    private static final int MOST_CLASSES = 12;
    private static final int MOST_FIELDS = 20;
    private static final int DEEPEST_CALL = 8;

    private static final Set<String> EXCEPTIONS = Set.of("java.lang.IllegalStateException",
            "java.lang.IllegalArgumentException", "java.lang.IndexOutOfBoundsException",
            "java.lang.ArithmeticException", "java.lang.UnsupportedOperationException",
            "java.util.NoSuchElementException", "java.lang.RuntimeException");
    private static final Set<String> NUMBER_FUNCTIONS =
            Set.of("java.lang.Integer", "java.lang.Long", "java.lang.Math");
    private static final Set<String> LISTS = Set.of("java.util.ArrayList", "java.util.List");
    private static final Set<String> LIST_CALLS =
            Set.of("<init>", "add", "get", "set", "remove", "size", "isEmpty", "clear", "of");
    private static final Map<String, Set<String>> LIBRARY = Map.of(
            "java.lang.Object", Set.of("<init>"),
            "java.lang.Enum", Set.of("<init>"),
            "java.lang.Record", Set.of("<init>"),
            "java.lang.String",
            Set.of("<init>", "length", "charAt", "isEmpty", "equals", "indexOf", "substring", "toCharArray"),
            "java.lang.StringBuilder",
            Set.of("<init>", "append", "charAt", "setCharAt", "setLength", "deleteCharAt", "reverse", "length",
                    "toString"),
            "java.util.ArrayList", LIST_CALLS,
            "java.util.List", LIST_CALLS,
            "java.lang.System", Set.of("arraycopy"),
            "java.util.Arrays", Set.of("copyOf", "copyOfRange", "fill"),
            "Array", Set.of("clone"));
    private static final Set<String> PARENTS = Set.of("java.lang.Object", "java.lang.Record", "java.lang.Enum",
            "java.util.Iterator", "java.lang.Iterable", "java.lang.Comparable");

    private static final Set<Tree.Kind> COMPARISONS = Set.of(Tree.Kind.LESS_THAN, Tree.Kind.LESS_THAN_EQUAL,
            Tree.Kind.GREATER_THAN, Tree.Kind.GREATER_THAN_EQUAL, Tree.Kind.EQUAL_TO, Tree.Kind.NOT_EQUAL_TO);

    private final Trees trees;
    private final CompilationUnitTree unit;
    private final List<String> faults = new ArrayList<>();
    private final Map<Element, Set<Element>> calls = new LinkedHashMap<>();
    private int classes = 0;
    /** The names that the method looked at so far, by comparing them or by handing them to a method of its own. */
    private Set<String> lookedAt = new TreeSet<>();

    private Language(Trees trees, CompilationUnitTree unit) {
        this.trees = trees;
        this.unit = unit;
    }

    static List<String> faults(String source) {
        DiagnosticCollector<JavaFileObject> problems = new DiagnosticCollector<>();
        JavacTask task = (JavacTask) ToolProvider.getSystemJavaCompiler().getTask(null, null, problems,
                List.of("--release", "17", "-proc:none"), null, List.of(new Text(source)));
        try {
            CompilationUnitTree unit = task.parse().iterator().next();
            task.analyze();
            if (problems.getDiagnostics().stream().anyMatch(problem -> problem.getKind() == Diagnostic.Kind.ERROR)) {
                throw new AssertionError(problems.getDiagnostics() + " in " + source);
            }
            Language language = new Language(Trees.instance(task), unit);
            language.scan(unit, null);
            language.lookAtDepthOfCalls();
            return language.faults;
        } catch (IOException e) {
            throw new AssertionError("a text in memory cannot be read", e);
        }
    }

    private static final class Text extends SimpleJavaFileObject {
        private final String source;

        Text(String source) {
            super(URI.create("string:///ModelCopies.java"), Kind.SOURCE);
            this.source = source;
        }

        @Override
        public CharSequence getCharContent(boolean ignoreEncodingErrors) {
            return source;
        }
    }

    private void fault(int rule, Tree tree, String what) {
        long line = unit.getLineMap().getLineNumber(trees.getSourcePositions().getStartPosition(unit, tree));
        faults.add("rule " + rule + ", line " + line + ": " + what);
    }

    private void faultIf(boolean is, int rule, Tree tree, String what) {
        if (is) {
            fault(rule, tree, what);
        }
    }

    private Element here() {
        return trees.getElement(getCurrentPath());
    }

    private TypeMirror typeOf(Tree tree) {
        return trees.getTypeMirror(new TreePath(getCurrentPath(), tree));
    }

    private boolean isOwn(Element element) {
        Element outer = element;
        while (outer.getEnclosingElement() != null && outer.getEnclosingElement().getKind() != ElementKind.PACKAGE) {
            outer = outer.getEnclosingElement();
        }
        return outer.equals(trees.getElement(new TreePath(new TreePath(unit), unit.getTypeDecls().get(0))));
    }

    private static String nameOf(TypeMirror type) {
        return type instanceof DeclaredType declared
                ? ((TypeElement) declared.asElement()).getQualifiedName().toString() : type.toString();
    }

    /** The method whose code this is; null for the initialiser of a field. */
    private ExecutableElement method() {
        for (TreePath path = getCurrentPath(); path != null; path = path.getParentPath()) {
            if (path.getLeaf() instanceof MethodTree) {
                return (ExecutableElement) trees.getElement(path);
            }
        }
        return null;
    }

    private boolean isInConstructor() {
        return method() != null && method().getKind() == ElementKind.CONSTRUCTOR;
    }

    // ---- rules 1 and 2: the classes

    @Override
    public Void visitCompilationUnit(CompilationUnitTree tree, Void none) {
        faultIf(tree.getPackage() != null, 1, tree, "a package line");
        faultIf(tree.getTypeDecls().size() != 1, 1, tree, "not one class at the top");
        super.visitCompilationUnit(tree, none);
        faultIf(classes > MOST_CLASSES, 11, tree, "too many classes");
        return null;
    }

    @Override
    public Void visitClass(ClassTree tree, Void none) {
        TypeElement element = (TypeElement) here();
        Set<Modifier> modifiers = element.getModifiers();
        Tree around = getCurrentPath().getParentPath().getLeaf();
        classes++;
        if (around instanceof CompilationUnitTree) {
            faultIf(!modifiers.containsAll(Set.of(Modifier.PUBLIC, Modifier.FINAL)), 1, tree, "not public and final");
        } else if (around instanceof ClassTree) {
            faultIf(!modifiers.contains(Modifier.STATIC), 1, tree, "a class inside that is not static");
            faultIf(modifiers.contains(Modifier.PUBLIC) || modifiers.contains(Modifier.PROTECTED), 1, tree,
                    "a class inside that is open");
        } else {
            faultIf(!(around instanceof NewClassTree), 2, tree, "a local class");
        }
        lookAtParents(tree, element);
        lookAtFields(tree, element);
        return super.visitClass(tree, none);
    }

    private void lookAtParents(ClassTree tree, TypeElement element) {
        List<TypeMirror> parents = new ArrayList<>(element.getInterfaces());
        parents.add(element.getSuperclass());
        for (TypeMirror parent : parents) {
            boolean isNone = parent.getKind() == TypeKind.NONE;
            boolean isLeft = isNone || PARENTS.contains(nameOf(parent)) || isOwn(((DeclaredType) parent).asElement());
            faultIf(!isLeft, nameOf(parent).endsWith("Exception") ? 6 : 4, tree, "a parent: " + parent);
        }
    }

    private void lookAtFields(ClassTree tree, TypeElement element) {
        int fields = 0;
        for (Element member : element.getEnclosedElements()) {
            if (member.getKind() == ElementKind.FIELD && !member.getModifiers().contains(Modifier.STATIC)) {
                fields++;
            }
        }
        faultIf(fields > MOST_FIELDS, 11, tree, "too many fields");
    }

    @Override
    public Void visitLambdaExpression(LambdaExpressionTree tree, Void none) {
        fault(2, tree, "a lambda");
        return super.visitLambdaExpression(tree, none);
    }

    @Override
    public Void visitMemberReference(MemberReferenceTree tree, Void none) {
        fault(2, tree, "a method reference");
        return super.visitMemberReference(tree, none);
    }

    // ---- rules 3 and 5: types and static fields

    private boolean isLeft(TypeMirror type) {
        if (type instanceof ArrayType array) {
            TypeMirror part = array.getComponentType();
            return part instanceof ArrayType inner ? isNumber(inner.getComponentType())
                    : part.getKind().isPrimitive() || isOwnType(part);
        }
        if (LISTS.contains(nameOf(type))) {
            List<? extends TypeMirror> parts = ((DeclaredType) type).getTypeArguments();
            return parts.size() == 1 && (isOwnType(parts.get(0)) || nameOf(parts.get(0)).equals("java.lang.Integer"));
        }
        return type.getKind().isPrimitive() || type.getKind() == TypeKind.VOID || isOwnType(type)
                || Set.of("java.lang.String", "java.lang.StringBuilder", "java.lang.Integer").contains(nameOf(type));
    }

    private static boolean isNumber(TypeMirror type) {
        return type.getKind().isPrimitive() && type.getKind() != TypeKind.BOOLEAN;
    }

    private boolean isOwnType(TypeMirror type) {
        return type.getKind() == TypeKind.TYPEVAR
                || type instanceof DeclaredType declared && isOwn(declared.asElement());
    }

    @Override
    public Void visitVariable(VariableTree tree, Void none) {
        VariableElement element = (VariableElement) here();
        boolean isCaught = element.getKind() == ElementKind.EXCEPTION_PARAMETER;
        faultIf(!isCaught && !isLeft(element.asType()), 3, tree, "the type " + element.asType());
        if (element.getKind() == ElementKind.FIELD && element.getModifiers().contains(Modifier.STATIC)) {
            lookAtStatic(tree, element);
        }
        return super.visitVariable(tree, none);
    }

    private void lookAtStatic(VariableTree tree, VariableElement element) {
        boolean isConstant = element.getConstantValue() != null
                && !Set.of("byte", "short", "float", "double").contains(element.asType().toString());
        boolean isWrittenOut = tree.getInitializer() instanceof NewArrayTree array && array.getInitializers() != null
                && Set.of("int[]", "long[]", "char[]", "byte[]").contains(element.asType().toString());
        boolean isValues = element.asType() instanceof ArrayType array
                && isOwnType(array.getComponentType()) && tree.getInitializer() instanceof MethodInvocationTree call
                && call.getMethodSelect().toString().endsWith(".values");
        faultIf(!element.getModifiers().contains(Modifier.FINAL), 5, tree, "a static field that is not final");
        faultIf(!isConstant && !isWrittenOut && !isValues, 5, tree, "a static field that is no constant");
    }

    @Override
    public Void visitBlock(BlockTree tree, Void none) {
        faultIf(tree.isStatic(), 5, tree, "a static initialiser block");
        return super.visitBlock(tree, none);
    }

    @Override
    public Void visitNewArray(NewArrayTree tree, Void none) {
        TypeMirror type = trees.getTypeMirror(getCurrentPath());
        faultIf(!isLeft(type), 3, tree, "the type " + type);
        for (ExpressionTree length : tree.getDimensions()) {
            faultIf(!isLookedAt(length), 7, tree, "the length of " + tree);
        }
        return super.visitNewArray(tree, none);
    }

    // ---- rules 4 and 13: the library

    @Override
    public Void visitMethodInvocation(MethodInvocationTree tree, Void none) {
        ExecutableElement called = (ExecutableElement) here();
        lookAtCall(tree, called);
        lookAtArguments(tree, tree.getArguments());
        boolean isOpen = called.getKind() == ElementKind.METHOD && isOwn(called)
                && !called.getModifiers().contains(Modifier.PRIVATE) && !called.getModifiers().contains(Modifier.STATIC)
                && !called.getEnclosingElement().getModifiers().contains(Modifier.FINAL);
        faultIf(isInConstructor() && isOpen, 12, tree, "a constructor calls what can be overridden");
        lookAtIndexInLibrary(tree, called);
        super.visitMethodInvocation(tree, none);
        if (isOwn(called)) {
            tree.getArguments().forEach(argument -> lookedAt.addAll(namesIn(argument)));
        }
        return null;
    }

    @Override
    public Void visitNewClass(NewClassTree tree, Void none) {
        lookAtCall(tree, (ExecutableElement) here());
        lookAtArguments(tree, tree.getArguments());
        return super.visitNewClass(tree, none);
    }

    private void lookAtCall(Tree tree, ExecutableElement called) {
        if (isOwn(called)) {
            if (method() != null) {
                calls.computeIfAbsent(method(), caller -> new LinkedHashSet<>()).add(called);
            }
        } else {
            faultIf(!isLeftInLibrary(called), 4, tree, called.getEnclosingElement() + "." + called);
        }
    }

    private static boolean isLeftInLibrary(ExecutableElement called) {
        String owner = ((TypeElement) called.getEnclosingElement()).getQualifiedName().toString();
        String name = called.getSimpleName().toString();
        if (EXCEPTIONS.contains(owner)) {
            return name.equals("<init>");
        }
        if (NUMBER_FUNCTIONS.contains(owner)) {
            return called.getModifiers().contains(Modifier.STATIC) && !name.endsWith("Exact")
                    && !called.getParameters().isEmpty() && called.getParameters().stream().allMatch(
                            part -> Set.of(TypeKind.INT, TypeKind.LONG).contains(part.asType().getKind()));
        }
        return LIBRARY.getOrDefault(owner, Set.of()).contains(name);
    }

    private void lookAtArguments(Tree tree, List<? extends ExpressionTree> arguments) {
        for (ExpressionTree argument : arguments) {
            boolean isThis = argument instanceof IdentifierTree name && name.getName().contentEquals("this");
            faultIf(isThis && isInConstructor(), 12, tree, "a constructor hands out its object");
        }
    }

    @Override
    public Void visitMemberSelect(MemberSelectTree tree, Void none) {
        Element element = here();
        boolean isField = element != null && element.getKind() == ElementKind.FIELD;
        boolean isLength = isField && element.getEnclosingElement().toString().equals("Array");
        faultIf(isField && !isLength && !isOwn(element), 4, tree, "a field of the library: " + tree);
        return super.visitMemberSelect(tree, none);
    }

    @Override
    public Void visitLiteral(LiteralTree tree, Void none) {
        boolean isPlain = !(tree.getValue() instanceof String text)
                || text.chars().allMatch(sign -> sign >= 1 && sign <= 127);
        faultIf(!isPlain, 4, tree, "a sign that is not 1 to 127");
        return super.visitLiteral(tree, none);
    }

    // ---- rule 6: exceptions, and what stands beside them there

    @Override
    public Void visitThrow(ThrowTree tree, Void none) {
        boolean isNew = tree.getExpression() instanceof NewClassTree made
                && EXCEPTIONS.contains(nameOf(typeOf(made)))
                && (made.getArguments().isEmpty() || made.getArguments().size() == 1
                        && made.getArguments().get(0) instanceof LiteralTree);
        faultIf(!isNew, 6, tree, "it throws something else");
        faultIf(isInConstructor(), 6, tree, "a throw in a constructor");
        return super.visitThrow(tree, none);
    }

    @Override
    public Void visitTry(TryTree tree, Void none) {
        faultIf(tree.getFinallyBlock() != null || !tree.getResources().isEmpty(), 6, tree, "finally, or resources");
        return super.visitTry(tree, none);
    }

    @Override
    public Void visitCatch(CatchTree tree, Void none) {
        TypeMirror type = typeOf(tree.getParameter());
        faultIf(!EXCEPTIONS.contains(nameOf(type)), 6, tree, "it catches " + type);
        return super.visitCatch(tree, none);
    }

    @Override
    public Void visitSynchronized(SynchronizedTree tree, Void none) {
        fault(6, tree, "synchronized");
        return super.visitSynchronized(tree, none);
    }

    @Override
    public Void visitAssert(AssertTree tree, Void none) {
        fault(6, tree, "assert");
        return super.visitAssert(tree, none);
    }

    // ---- rule 7: what is looked at before it is used

    private static Set<String> namesIn(Tree tree) {
        Set<String> names = new TreeSet<>();
        new TreeScanner<Void, Void>() {
            @Override
            public Void visitIdentifier(IdentifierTree name, Void none) {
                names.add(name.getName().toString());
                return null;
            }
        }.scan(tree, null);
        return names;
    }

    private boolean isLookedAt(ExpressionTree tree) {
        TreePath path = new TreePath(getCurrentPath(), tree);
        boolean isConstant = tree instanceof LiteralTree || trees.getElement(path) instanceof VariableElement variable
                && variable.getConstantValue() != null;
        return isConstant || !namesIn(tree).isEmpty() && lookedAt.containsAll(namesIn(tree));
    }

    @Override
    public Void visitArrayAccess(ArrayAccessTree tree, Void none) {
        faultIf(!isLookedAt(tree.getIndex()), 7, tree, "the index of " + tree);
        return super.visitArrayAccess(tree, none);
    }

    private void lookAtIndexInLibrary(MethodInvocationTree tree, ExecutableElement called) {
        boolean isOfIndex = Set.of("get", "set", "remove", "charAt", "setCharAt", "deleteCharAt")
                .contains(called.getSimpleName().toString()) && !isOwn(called);
        faultIf(isOfIndex && !isLookedAt(tree.getArguments().get(0)), 7, tree, "the index of " + tree);
    }

    @Override
    public Void visitInstanceOf(InstanceOfTree tree, Void none) {
        lookedAt.addAll(namesIn(tree.getExpression()));
        return super.visitInstanceOf(tree, none);
    }

    @Override
    public Void visitTypeCast(TypeCastTree tree, Void none) {
        boolean isOfNumbers = typeOf(tree.getType()).getKind().isPrimitive();
        faultIf(!isOfNumbers && !isLookedAt(tree.getExpression()), 7, tree, "the cast " + tree);
        return super.visitTypeCast(tree, none);
    }

    // ---- rules 6, 7, 10 and 11: methods and signs

    @Override
    public Void visitMethod(MethodTree tree, Void none) {
        lookedAt = new TreeSet<>();
        String name = tree.getName().toString();
        ExecutableElement element = (ExecutableElement) here();
        faultIf(Set.of("equals", "hashCode", "toString").contains(name), 6, tree, name);
        faultIf(element.getModifiers().contains(Modifier.SYNCHRONIZED), 6, tree, "synchronized");
        faultIf(tree.getReturnType() != null && !isLeft(element.getReturnType()), 3, tree,
                "the type " + element.getReturnType());
        faultIf(tree.getParameters().size() > MOST_PARAMETERS, 11, tree, "too many parameters");
        faultIf(linesOf(tree) > MOST_LINES, 11, tree, "too many lines");
        return super.visitMethod(tree, none);
    }

    private long linesOf(Tree tree) {
        long start = trees.getSourcePositions().getStartPosition(unit, tree);
        long end = trees.getSourcePositions().getEndPosition(unit, tree);
        return end < start ? 0 : unit.getLineMap().getLineNumber(end) - unit.getLineMap().getLineNumber(start) + 1;
    }

    @Override
    public Void visitBinary(BinaryTree tree, Void none) {
        String left = nameOf(typeOf(tree.getLeftOperand()));
        String right = nameOf(typeOf(tree.getRightOperand()));
        switch (tree.getKind()) {
            case PLUS -> faultIf(left.equals("java.lang.String") || right.equals("java.lang.String"), 10, tree,
                    "texts joined by +");
            case EQUAL_TO, NOT_EQUAL_TO -> faultIf(left.equals(right)
                    && Set.of("java.lang.String", "java.lang.Integer").contains(left), 6, tree, "== of two " + left);
            case DIVIDE, REMAINDER -> faultIf(!isLookedAt(tree.getRightOperand()), 7, tree, "the divisor of " + tree);
            default -> { }
        }
        super.visitBinary(tree, none);
        if (COMPARISONS.contains(tree.getKind())) {
            lookedAt.addAll(namesIn(tree));
        }
        return null;
    }

    @Override
    public Void visitCompoundAssignment(CompoundAssignmentTree tree, Void none) {
        faultIf(nameOf(typeOf(tree.getVariable())).equals("java.lang.String"), 10, tree, "texts joined by +=");
        return super.visitCompoundAssignment(tree, none);
    }

    // ---- rules 8, 9, 11 and 12: what has an end

    @Override
    public Void visitForLoop(ForLoopTree tree, Void none) {
        faultIf(tree.getCondition() == null || tree.getUpdate().isEmpty(), 9, tree, "a loop without a counter");
        return super.visitForLoop(tree, none);
    }

    @Override
    public Void visitWhileLoop(WhileLoopTree tree, Void none) {
        fault(9, tree, "a loop without a counter");
        return super.visitWhileLoop(tree, none);
    }

    @Override
    public Void visitDoWhileLoop(DoWhileLoopTree tree, Void none) {
        fault(9, tree, "a loop without a counter");
        return super.visitDoWhileLoop(tree, none);
    }

    @Override
    public Void visitEnhancedForLoop(EnhancedForLoopTree tree, Void none) {
        faultIf(!(typeOf(tree.getExpression()) instanceof ArrayType), 12, tree, "a list's iterator is made");
        return super.visitEnhancedForLoop(tree, none);
    }

    private void lookAtDepthOfCalls() {
        for (Element caller : calls.keySet()) {
            followCalls(caller, new ArrayList<>());
        }
    }

    private void followCalls(Element caller, List<Element> open) {
        if (open.contains(caller)) {
            fault(8, unit, "a recursion: " + open);
        } else if (open.size() >= DEEPEST_CALL) {
            fault(11, unit, "calls too deep: " + open);
        } else {
            List<Element> deeper = new ArrayList<>(open);
            deeper.add(caller);
            for (Element called : calls.getOrDefault(caller, Set.of())) {
                followCalls(called, deeper);
            }
        }
    }
}
