import com.sun.source.tree.*;
import com.sun.source.util.JavacTask;
import com.sun.source.util.TreePath;
import com.sun.source.util.TreePathScanner;
import com.sun.source.util.Trees;
import java.io.File;
import java.util.ArrayList;
import java.util.HashMap;
import java.util.LinkedHashMap;
import java.util.LinkedHashSet;
import java.util.List;
import java.util.Map;
import java.util.Set;
import java.util.TreeSet;
import javax.lang.model.element.Element;
import javax.lang.model.element.ElementKind;
import javax.lang.model.element.ExecutableElement;
import javax.lang.model.element.Modifier;
import javax.lang.model.element.TypeElement;
import javax.lang.model.element.VariableElement;
import javax.lang.model.type.ArrayType;
import javax.lang.model.type.DeclaredType;
import javax.lang.model.type.TypeKind;
import javax.lang.model.type.TypeMirror;
import javax.tools.JavaCompiler;
import javax.tools.StandardJavaFileManager;
import javax.tools.ToolProvider;

/** The rules of ../shared/LANGUAGE.md, as far as they can be read off the class itself; each fault tells the rule's number. */
public final class LanguageTest extends TreePathScanner<Void, Void> {
    private static final File FILE = new File("src/main/java/EscalatedForms.java");
    private static final Set<String> IMPORTS = Set.of("java.util.Arrays", "java.util.ArrayList", "java.util.List");
    private static final Set<String> TYPES = Set.of("java.lang.String", "java.lang.StringBuilder", "java.util.ArrayList", "java.util.List");
    private static final Set<String> ARRAYS = Set.of("copyOf", "copyOfRange", "fill");
    private static final Set<TypeKind> CONSTANTS = Set.of(TypeKind.INT, TypeKind.LONG, TypeKind.BOOLEAN, TypeKind.CHAR);
    private static final Set<TypeKind> CONSTANT_ROWS = Set.of(TypeKind.INT, TypeKind.LONG, TypeKind.CHAR, TypeKind.BYTE);

    private final Trees trees;
    private final CompilationUnitTree unit;
    private final Map<Element, Set<Element>> calls = new LinkedHashMap<>();
    private final Map<Element, Integer> depths = new HashMap<>();
    private final Set<String> face = new TreeSet<>();
    private int classes = 0;
    private int loops = 0;
    private int wrong = 0;

    private LanguageTest(Trees trees, CompilationUnitTree unit) {
        this.trees = trees;
        this.unit = unit;
    }

    public static void main(String[] args) throws Exception {
        JavaCompiler compiler = ToolProvider.getSystemJavaCompiler();
        try (StandardJavaFileManager files = compiler.getStandardFileManager(null, null, null)) {
            JavacTask task = (JavacTask) compiler.getTask(null, files, null, List.of("-proc:none"), null,
                files.getJavaFileObjects(args.length > 0 ? new File(args[0]) : FILE));
            CompilationUnitTree unit = task.parse().iterator().next();
            task.analyze();
            LanguageTest test = new LanguageTest(Trees.instance(task), unit);
            test.readFace();
            test.scan(unit, null);
            test.callsGoDown();
            System.out.println(test.wrong == 0 ? "the language is as due" : test.wrong + " faults");
            if (test.wrong != 0) {
                System.exit(1);
            }
        }
    }

    private void fault(int rule, String text) {
        wrong++;
        long at = getCurrentPath() == null ? -1 : trees.getSourcePositions().getStartPosition(unit, getCurrentPath().getLeaf());
        System.out.println("rule " + rule + (at < 0 ? "" : ", line " + unit.getLineMap().getLineNumber(at)) + ": " + text);
    }

    private Element here() {
        return trees.getElement(getCurrentPath());
    }

    private Element elementOf(Tree tree) {
        return trees.getElement(new TreePath(getCurrentPath(), tree));
    }

    private TypeMirror typeOf(Tree tree) {
        return trees.getTypeMirror(new TreePath(getCurrentPath(), tree));
    }

    private static boolean isOwn(Element element) {
        Element one = element;
        while (one != null && one.getKind() != ElementKind.PACKAGE) {
            if (one instanceof TypeElement type && type.getQualifiedName().contentEquals("EscalatedForms")) {
                return true;
            }
            one = one.getEnclosingElement();
        }
        return false;
    }

    // ---- rules 1 and 2: members and classes

    private void readFace() {
        for (Tree type : unit.getTypeDecls()) {
            for (Tree member : ((ClassTree) type).getMembers()) {
                if (member instanceof MethodTree method && method.getReturnType() != null
                    && method.getModifiers().getFlags().contains(Modifier.PUBLIC)) {
                    face.add(method.getName().toString());
                }
            }
        }
        if (unit.getTypeDecls().size() != 1 || unit.getPackageName() != null) {
            fault(1, "the file has more than one class, or a package line");
        }
    }

    @Override
    public Void visitImport(ImportTree tree, Void none) {
        if (tree.isStatic() || !IMPORTS.contains(tree.getQualifiedIdentifier().toString())) {
            fault(4, "import " + tree.getQualifiedIdentifier());
        }
        return super.visitImport(tree, none);
    }

    @Override
    public Void visitClass(ClassTree tree, Void none) {
        classes++;
        Tree above = getCurrentPath().getParentPath().getLeaf();
        boolean isOuter = above == unit;
        if (!isOuter && !(above instanceof ClassTree)) {
            fault(2, "a local or anonymous class");
        }
        boolean isClass = tree.getKind() == Tree.Kind.CLASS;
        if (!isOuter && isClass && !tree.getModifiers().getFlags().contains(Modifier.STATIC)) {
            fault(2, "a class inside that is not static: " + tree.getSimpleName());
        }
        // no class of another could override what a constructor calls
        if (isClass && !tree.getModifiers().getFlags().contains(Modifier.FINAL)) {
            fault(12, "a class that is not final: " + tree.getSimpleName());
        }
        if (classes > 12) {
            fault(11, "more than twelve classes");
        }
        int fields = 0;
        for (Tree member : tree.getMembers()) {
            fields += member instanceof VariableTree field && !field.getModifiers().getFlags().contains(Modifier.STATIC) ? 1 : 0;
            if (member instanceof BlockTree) {
                fault(5, "an initialiser block in " + tree.getSimpleName());
            }
        }
        if (fields > 20) {
            fault(11, fields + " fields in " + tree.getSimpleName());
        }
        return super.visitClass(tree, none);
    }

    @Override
    public Void visitMethod(MethodTree tree, Void none) {
        String name = tree.getName().toString();
        boolean isPublic = tree.getModifiers().getFlags().contains(Modifier.PUBLIC);
        if (!isPublic && face.contains(name)) {
            fault(1, "a method that is not public bears the name of a public one: " + name);
        }
        if (Set.of("equals", "hashCode", "toString", "finalize").contains(name)) {
            fault(6, name + " of an own class");
        }
        if (tree.getParameters().size() > 7) {
            fault(11, name + " has " + tree.getParameters().size() + " parameters");
        }
        long start = trees.getSourcePositions().getStartPosition(unit, tree);
        long end = trees.getSourcePositions().getEndPosition(unit, tree);
        if (end >= 0 && unit.getLineMap().getLineNumber(end) - unit.getLineMap().getLineNumber(start) >= 60) {
            fault(11, name + " has more than sixty lines");
        }
        if (!tree.getThrows().isEmpty() || tree.getModifiers().getFlags().contains(Modifier.SYNCHRONIZED)) {
            fault(6, name + " throws or is synchronized");
        }
        calls.computeIfAbsent(here(), element -> new LinkedHashSet<>());
        return super.visitMethod(tree, none);
    }

    // ---- rules 3 and 5: types, static fields

    @Override
    public Void visitVariable(VariableTree tree, Void none) {
        VariableElement element = (VariableElement) here();
        checkType(element.asType());
        if (element.getModifiers().contains(Modifier.STATIC)) {
            checkStatic(tree, element);
        }
        return super.visitVariable(tree, none);
    }

    private void checkStatic(VariableTree tree, VariableElement element) {
        TypeMirror type = element.asType();
        boolean isConstant = element.getConstantValue() != null && (CONSTANTS.contains(type.getKind()) || type.toString().equals("java.lang.String"));
        boolean isRow = type instanceof ArrayType row && CONSTANT_ROWS.contains(row.getComponentType().getKind())
            && tree.getInitializer() instanceof NewArrayTree made && made.getInitializers() != null;
        if (!element.getModifiers().contains(Modifier.FINAL) || !isConstant && !isRow) {
            fault(5, "no static field may be so: " + tree.getName());
        }
        if (!element.getModifiers().contains(Modifier.PRIVATE) && isRow) {
            fault(1, "a row that others can see: " + tree.getName());
        }
    }

    private void checkType(TypeMirror type) {
        if (type instanceof ArrayType row) {
            TypeMirror part = row.getComponentType();
            boolean isNumbers = part instanceof ArrayType inner && inner.getComponentType().getKind().isPrimitive();
            if (part instanceof ArrayType && !isNumbers) {
                fault(3, "an array of " + part);
            }
            checkType(isNumbers ? ((ArrayType) part).getComponentType() : part);
        } else if (type instanceof DeclaredType declared) {
            if (!isOwn(declared.asElement()) && !TYPES.contains(declared.asElement().toString())) {
                fault(3, "the type " + type);
            }
        } else if (!type.getKind().isPrimitive() || type.getKind() == TypeKind.DOUBLE || type.getKind() == TypeKind.FLOAT) {
            // the language lets doubles be; this class needs none
            fault(3, "the type " + type);
        }
    }

    private void checkTarget(ExpressionTree target) {
        ExpressionTree row = target;
        while (row instanceof ArrayAccessTree access) {
            row = access.getExpression();
        }
        Element element = elementOf(row);
        if (element != null && element.getKind() == ElementKind.FIELD && element.getModifiers().contains(Modifier.STATIC)) {
            fault(5, "a static row is changed: " + target);
        }
    }

    @Override
    public Void visitAssignment(AssignmentTree tree, Void none) {
        checkTarget(tree.getVariable());
        return super.visitAssignment(tree, none);
    }

    @Override
    public Void visitCompoundAssignment(CompoundAssignmentTree tree, Void none) {
        checkTarget(tree.getVariable());
        return super.visitCompoundAssignment(tree, none);
    }

    @Override
    public Void visitUnary(UnaryTree tree, Void none) {
        boolean isStep = tree.getKind().toString().endsWith("CREMENT");
        if (isStep) {
            checkTarget(tree.getExpression());
        }
        return super.visitUnary(tree, none);
    }

    @Override
    public Void visitLiteral(LiteralTree tree, Void none) {
        if (tree.getValue() instanceof String text && !text.chars().allMatch(sign -> sign >= 1 && sign <= 127)) {
            fault(4, "a sign that is not 1 to 127");
        }
        return super.visitLiteral(tree, none);
    }

    // ---- rule 4: the library

    @Override
    public Void visitMethodInvocation(MethodInvocationTree tree, Void none) {
        Element called = here();
        if (isOwn(called)) {
            calls.get(method()).add(called);
        } else {
            checkLibrary(tree, called);
        }
        return super.visitMethodInvocation(tree, none);
    }

    private void checkLibrary(MethodInvocationTree tree, Element called) {
        String name = called.getSimpleName().toString();
        String owner = called.getEnclosingElement().toString();
        if (name.equals("<init>") && owner.equals("java.lang.Object")) {
            return;
        }
        boolean isClone = name.equals("clone") && tree.getMethodSelect() instanceof MemberSelectTree select
            && typeOf(select.getExpression()) instanceof ArrayType;
        boolean isRows = owner.equals("java.util.Arrays") && ARRAYS.contains(name) || owner.equals("java.lang.System") && name.equals("arraycopy");
        boolean isMath = Set.of("java.lang.Math", "java.lang.Integer", "java.lang.Long").contains(owner) && !name.endsWith("Exact")
            && ((ExecutableElement) called).getParameters().stream()
                .allMatch(one -> one.asType().getKind() == TypeKind.INT || one.asType().getKind() == TypeKind.LONG);
        if (!isClone && !isRows && !isMath) {
            fault(4, owner + "." + name);
        }
    }

    @Override
    public Void visitNewClass(NewClassTree tree, Void none) {
        if (isOwn(here())) {
            calls.get(method()).add(here());
        } else {
            fault(4, "new " + tree.getIdentifier());
        }
        checkMade();
        return super.visitNewClass(tree, none);
    }

    @Override
    public Void visitNewArray(NewArrayTree tree, Void none) {
        checkMade();
        return super.visitNewArray(tree, none);
    }

    /** What a call makes inside a loop would count as often as the loop goes round; only the constructor makes its rows so. */
    private void checkMade() {
        if (loops > 0 && method().getKind() != ElementKind.CONSTRUCTOR) {
            fault(12, "something is made in a loop");
        }
    }

    /** The method that is being read; a field's initialiser belongs to the constructor. */
    private Element method() {
        TreePath path = getCurrentPath();
        while (path != null && !(path.getLeaf() instanceof MethodTree)) {
            if (path.getLeaf() instanceof ClassTree type) {
                for (Tree member : type.getMembers()) {
                    if (member instanceof MethodTree method && method.getName().contentEquals("<init>")) {
                        Element element = trees.getElement(new TreePath(path, member));
                        calls.computeIfAbsent(element, one -> new LinkedHashSet<>());
                        return element;
                    }
                }
            }
            path = path.getParentPath();
        }
        return trees.getElement(path);
    }

    // ---- rule 6: what may not be said

    @Override
    public Void visitThrow(ThrowTree tree, Void none) {
        fault(6, "throw");
        return super.visitThrow(tree, none);
    }

    @Override
    public Void visitTry(TryTree tree, Void none) {
        fault(6, "try");
        return super.visitTry(tree, none);
    }

    @Override
    public Void visitSynchronized(SynchronizedTree tree, Void none) {
        fault(6, "synchronized");
        return super.visitSynchronized(tree, none);
    }

    @Override
    public Void visitAssert(AssertTree tree, Void none) {
        fault(6, "assert");
        return super.visitAssert(tree, none);
    }

    @Override
    public Void visitLambdaExpression(LambdaExpressionTree tree, Void none) {
        fault(2, "a lambda");
        return super.visitLambdaExpression(tree, none);
    }

    @Override
    public Void visitMemberReference(MemberReferenceTree tree, Void none) {
        fault(2, "a method reference");
        return super.visitMemberReference(tree, none);
    }

    @Override
    public Void visitTypeCast(TypeCastTree tree, Void none) {
        if (!typeOf(tree.getType()).getKind().isPrimitive()) {
            fault(6, "a cast to " + tree.getType());
        }
        return super.visitTypeCast(tree, none);
    }

    @Override
    public Void visitBinary(BinaryTree tree, Void none) {
        boolean isEquality = tree.getKind() == Tree.Kind.EQUAL_TO || tree.getKind() == Tree.Kind.NOT_EQUAL_TO;
        for (ExpressionTree side : List.of(tree.getLeftOperand(), tree.getRightOperand())) {
            TypeMirror type = typeOf(side);
            boolean isObject = type instanceof DeclaredType declared && !isOwn(declared.asElement());
            if (isEquality && isObject) {
                fault(6, "== between objects that are not one's own");
            }
            if (!isEquality && !type.getKind().isPrimitive()) {
                fault(10, "a text that is joined by +");
            }
        }
        return super.visitBinary(tree, none);
    }

    // ---- rule 9: loops

    @Override
    public Void visitForLoop(ForLoopTree tree, Void none) {
        checkBound(tree.getCondition());
        loops++;
        super.visitForLoop(tree, none);
        loops--;
        return null;
    }

    @Override
    public Void visitWhileLoop(WhileLoopTree tree, Void none) {
        checkBound(tree.getCondition());
        loops++;
        super.visitWhileLoop(tree, none);
        loops--;
        return null;
    }

    @Override
    public Void visitDoWhileLoop(DoWhileLoopTree tree, Void none) {
        checkBound(tree.getCondition());
        loops++;
        super.visitDoWhileLoop(tree, none);
        loops--;
        return null;
    }

    @Override
    public Void visitEnhancedForLoop(EnhancedForLoopTree tree, Void none) {
        loops++;
        super.visitEnhancedForLoop(tree, none);
        loops--;
        return null;
    }

    /** One of the things that must all hold for the loop to go on is a counter against a bound. */
    private void checkBound(ExpressionTree condition) {
        List<ExpressionTree> parts = new ArrayList<>();
        if (condition != null) {
            parts.add(condition);
        }
        boolean isBound = false;
        for (int i = 0; i < parts.size(); i++) {
            ExpressionTree part = parts.get(i);
            if (part instanceof ParenthesizedTree inner) {
                parts.add(inner.getExpression());
            } else if (part instanceof BinaryTree both && part.getKind() == Tree.Kind.CONDITIONAL_AND) {
                parts.add(both.getLeftOperand());
                parts.add(both.getRightOperand());
            } else {
                isBound |= part.getKind() == Tree.Kind.LESS_THAN || part.getKind() == Tree.Kind.LESS_THAN_EQUAL
                    || part.getKind() == Tree.Kind.GREATER_THAN || part.getKind() == Tree.Kind.GREATER_THAN_EQUAL;
            }
        }
        if (!isBound) {
            fault(9, "no end is seen of the loop with " + condition);
        }
    }

    // ---- rules 8 and 11: how deep calls go

    private void callsGoDown() {
        for (Element method : calls.keySet()) {
            int depth = depthOf(method, new LinkedHashSet<>());
            if (depth > 8 && method.getModifiers().contains(Modifier.PUBLIC)) {
                fault(11, method + " goes " + depth + " deep");
            }
        }
    }

    private int depthOf(Element method, Set<Element> open) {
        if (depths.containsKey(method)) {
            return depths.get(method);
        }
        if (!open.add(method)) {
            // rule 8 lets recursion be, with a guard; this class needs none
            fault(8, method + " calls itself by way of " + open);
            return 0;
        }
        int deepest = 0;
        for (Element called : calls.getOrDefault(method, Set.of())) {
            deepest = Math.max(deepest, depthOf(called, open));
        }
        open.remove(method);
        depths.put(method, deepest + 1);
        return deepest + 1;
    }
}
