import com.sun.source.tree.*;
import com.sun.source.util.TreePath;
import com.sun.source.util.TreePathScanner;
import com.sun.source.util.Trees;
import java.util.ArrayList;
import java.util.HashMap;
import java.util.LinkedHashMap;
import java.util.LinkedHashSet;
import java.util.List;
import java.util.Map;
import java.util.Set;
import javax.lang.model.element.Element;
import javax.lang.model.element.ElementKind;
import javax.lang.model.element.ExecutableElement;
import javax.lang.model.element.Modifier;
import javax.lang.model.type.ArrayType;
import javax.lang.model.type.TypeKind;
import javax.lang.model.type.TypeMirror;

/** Goes through the program, and tells where it leaves the rules of LANGUAGE.md. */
final class Rules extends TreePathScanner<Void, Void> {
    /** What the program uses of what rule 4 allows; whoever needs more of it adds it here. */
    private static final Set<String> LIBRARY = Set.of("Object.<init>", "Integer.bitCount",
        "Math.abs", "Math.floorMod", "Math.max", "Math.min", "System.arraycopy");

    private final Due due;
    private final Trees trees;
    private final CompilationUnitTree unit;
    private final Map<ExecutableElement, Set<ExecutableElement>> calls = new LinkedHashMap<>();
    private final Map<ExecutableElement, Integer> depths = new HashMap<>();
    private final List<ExecutableElement> open = new ArrayList<>();
    private final Set<String> publicNames = new LinkedHashSet<>();
    private final List<ExecutableElement> hidden = new ArrayList<>();
    private int classes;

    Rules(Due due, Trees trees, CompilationUnitTree unit) {
        this.due = due;
        this.trees = trees;
        this.unit = unit;
    }

    /** Tells what only the whole program shows. */
    void end() {
        due.holds("rule 11: " + classes + " classes", classes <= 12);
        for (ExecutableElement method : hidden) {
            rule(1, "no name of a public method: " + method, !publicNames.contains(name(method)));
        }
        for (ExecutableElement method : calls.keySet()) {
            int depth = depth(method);
            rule(11, depth + " calls deep: " + method, depth <= 8);
        }
    }

    private void rule(int number, String what, boolean holds) {
        due.holds("rule " + number + ": " + what, holds);
    }

    private static String name(Element element) {
        return element.getSimpleName().toString();
    }

    private Element element() {
        return trees.getElement(getCurrentPath());
    }

    private String where(Tree tree) {
        long at = trees.getSourcePositions().getStartPosition(unit, tree);
        return " in line " + unit.getLineMap().getLineNumber(at);
    }

    private boolean isOwn(Element type) {
        TreePath path = trees.getPath(type);
        return path != null && path.getCompilationUnit() == unit;
    }

    // ---- classes and fields

    @Override
    public Void visitClass(ClassTree tree, Void none) {
        classes++;
        Tree around = getCurrentPath().getParentPath().getLeaf();
        Set<Modifier> modifiers = tree.getModifiers().getFlags();
        if (around != unit) {
            boolean isInside = around instanceof ClassTree && modifiers.contains(Modifier.STATIC)
                && !modifiers.contains(Modifier.PUBLIC) && !modifiers.contains(Modifier.PROTECTED);
            rule(2, "static and not public: " + tree.getSimpleName(), isInside);
        }
        int fields = 0;
        for (Tree member : tree.getMembers()) {
            rule(5, "no initialiser block" + where(member), !(member instanceof BlockTree));
            boolean isField = member instanceof VariableTree
                && !((VariableTree) member).getModifiers().getFlags().contains(Modifier.STATIC);
            fields += isField ? 1 : 0;
        }
        rule(11, fields + " fields: " + tree.getSimpleName(), fields <= 20);
        return super.visitClass(tree, none);
    }

    @Override
    public Void visitVariable(VariableTree tree, Void none) {
        TypeMirror type = element().asType();
        boolean isArray = type.getKind() == TypeKind.ARRAY;
        TypeMirror single = isArray ? ((ArrayType) type).getComponentType() : type;
        rule(3, "type of " + tree.getName() + where(tree), isKnown(single));
        if (element().getModifiers().contains(Modifier.STATIC)) {
            boolean isConstant = single.getKind().isPrimitive() || single.toString().equals("java.lang.String");
            rule(5, "final: " + tree.getName(), element().getModifiers().contains(Modifier.FINAL));
            rule(5, "a constant: " + tree.getName(), isConstant);
        }
        return super.visitVariable(tree, none);
    }

    private boolean isKnown(TypeMirror type) {
        return type.getKind().isPrimitive() || type.toString().equals("java.lang.String")
            || type.toString().startsWith("CrankLayout.");
    }

    @Override
    public Void visitAssignment(AssignmentTree tree, Void none) {
        isNoConstantRow(tree.getVariable());
        return super.visitAssignment(tree, none);
    }

    @Override
    public Void visitCompoundAssignment(CompoundAssignmentTree tree, Void none) {
        isNoConstantRow(tree.getVariable());
        rule(10, "no text is joined" + where(tree), !isText(tree.getVariable()));
        return super.visitCompoundAssignment(tree, none);
    }

    @Override
    public Void visitUnary(UnaryTree tree, Void none) {
        // POSTFIX_INCREMENT and its like, which change what they read.
        if (tree.getKind().name().endsWith("CREMENT")) {
            isNoConstantRow(tree.getExpression());
        }
        return super.visitUnary(tree, none);
    }

    private void isNoConstantRow(Tree changed) {
        if (changed instanceof ArrayAccessTree) {
            Tree row = ((ArrayAccessTree) changed).getExpression();
            Element element = trees.getElement(new TreePath(getCurrentPath(), row));
            boolean isStatic = element != null && element.getModifiers().contains(Modifier.STATIC);
            rule(5, "no constant is changed" + where(changed), !isStatic);
        }
    }

    private boolean isText(Tree tree) {
        TypeMirror type = trees.getTypeMirror(new TreePath(getCurrentPath(), tree));
        return type != null && type.toString().equals("java.lang.String");
    }

    // ---- methods and calls

    @Override
    public Void visitMethod(MethodTree tree, Void none) {
        ExecutableElement method = (ExecutableElement) element();
        Set<Modifier> modifiers = method.getModifiers();
        calls.putIfAbsent(method, new LinkedHashSet<>());
        if (modifiers.contains(Modifier.PUBLIC)) {
            publicNames.add(name(method));
        } else if (method.getKind() == ElementKind.METHOD) {
            hidden.add(method);
        }
        Set<String> ofObject = Set.of("equals", "hashCode", "toString", "finalize");
        rule(6, "no method of Object: " + method, !ofObject.contains(name(method)));
        rule(6, "not synchronized: " + method, !modifiers.contains(Modifier.SYNCHRONIZED));
        rule(11, "parameters: " + method, tree.getParameters().size() <= 7);
        LineMap lines = unit.getLineMap();
        long first = trees.getSourcePositions().getStartPosition(unit, tree);
        long last = trees.getSourcePositions().getEndPosition(unit, tree);
        rule(11, "lines: " + method, lines.getLineNumber(last) - lines.getLineNumber(first) < 60);
        return super.visitMethod(tree, none);
    }

    @Override
    public Void visitMethodInvocation(MethodInvocationTree tree, Void none) {
        isCalled((ExecutableElement) element(), tree);
        return super.visitMethodInvocation(tree, none);
    }

    @Override
    public Void visitNewClass(NewClassTree tree, Void none) {
        rule(2, "no class without a name" + where(tree), tree.getClassBody() == null);
        isMade(tree);
        isCalled((ExecutableElement) element(), tree);
        return super.visitNewClass(tree, none);
    }

    @Override
    public Void visitNewArray(NewArrayTree tree, Void none) {
        isMade(tree);
        return super.visitNewArray(tree, none);
    }

    private void isCalled(ExecutableElement called, Tree tree) {
        if (isOwn(called)) {
            ExecutableElement caller = method();
            if (caller != null) {
                calls.computeIfAbsent(caller, any -> new LinkedHashSet<>()).add(called);
            }
        } else {
            String full = name(called.getEnclosingElement()) + "." + name(called);
            rule(4, full + where(tree), LIBRARY.contains(full));
        }
    }

    /** Rule 12 allows more; but the README says that no call makes an object. */
    private void isMade(Tree tree) {
        ExecutableElement method = method();
        rule(12, "no call makes an object" + where(tree),
            method == null || method.getKind() == ElementKind.CONSTRUCTOR);
    }

    /** The method in which this stands, or null. */
    private ExecutableElement method() {
        for (TreePath path = getCurrentPath(); path != null; path = path.getParentPath()) {
            if (path.getLeaf() instanceof MethodTree) {
                return (ExecutableElement) trees.getElement(path);
            }
        }
        return null;
    }

    /** How many calls stand open at the most, without those of a method by itself. */
    private int depth(ExecutableElement method) {
        if (depths.containsKey(method)) {
            return depths.get(method);
        }
        int deepest = 0;
        open.add(method);
        for (ExecutableElement called : calls.getOrDefault(method, Set.of())) {
            if (called == method) {
                Set<Modifier> modifiers = method.getModifiers();
                rule(8, "private and static, for it calls itself: " + method,
                    modifiers.contains(Modifier.PRIVATE) && modifiers.contains(Modifier.STATIC));
            } else {
                rule(8, "no circle of calls: " + called, !open.contains(called));
                deepest = open.contains(called) ? deepest : Math.max(deepest, depth(called));
            }
        }
        open.remove(method);
        depths.put(method, deepest + 1);
        return deepest + 1;
    }

    // ---- statements and expressions

    @Override
    public Void visitForLoop(ForLoopTree tree, Void none) {
        rule(9, "an end of the loop" + where(tree), tree.getCondition() != null && !tree.getUpdate().isEmpty());
        return super.visitForLoop(tree, none);
    }

    @Override
    public Void visitWhileLoop(WhileLoopTree tree, Void none) {
        return isNone(9, "a while loop, whose end nobody has looked at", tree);
    }

    @Override
    public Void visitDoWhileLoop(DoWhileLoopTree tree, Void none) {
        return isNone(9, "a do loop, whose end nobody has looked at", tree);
    }

    @Override
    public Void visitBinary(BinaryTree tree, Void none) {
        boolean isJoined = tree.getKind() == Tree.Kind.PLUS
            && (isText(tree.getLeftOperand()) || isText(tree.getRightOperand()));
        rule(10, "no text is joined" + where(tree), !isJoined);
        return super.visitBinary(tree, none);
    }

    @Override
    public Void visitTypeCast(TypeCastTree tree, Void none) {
        rule(6, "a cast of a number" + where(tree), tree.getType() instanceof PrimitiveTypeTree);
        return super.visitTypeCast(tree, none);
    }

    @Override
    public Void visitLambdaExpression(LambdaExpressionTree tree, Void none) {
        return isNone(2, "lambda", tree);
    }

    @Override
    public Void visitMemberReference(MemberReferenceTree tree, Void none) {
        return isNone(2, "method reference", tree);
    }

    @Override
    public Void visitThrow(ThrowTree tree, Void none) {
        return isNone(6, "throw", tree);
    }

    @Override
    public Void visitTry(TryTree tree, Void none) {
        return isNone(6, "try", tree);
    }

    @Override
    public Void visitSynchronized(SynchronizedTree tree, Void none) {
        return isNone(6, "synchronized", tree);
    }

    @Override
    public Void visitAssert(AssertTree tree, Void none) {
        return isNone(6, "assert", tree);
    }

    private Void isNone(int number, String what, Tree tree) {
        rule(number, what + where(tree), false);
        return null;
    }
}
