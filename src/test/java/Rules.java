import com.sun.source.tree.*;
import com.sun.source.util.TreePath;
import com.sun.source.util.TreePathScanner;
import com.sun.source.util.Trees;
import java.util.HashMap;
import java.util.HashSet;
import java.util.Map;
import java.util.Set;
import java.util.TreeMap;
import java.util.TreeSet;
import javax.lang.model.element.Element;
import javax.lang.model.element.ElementKind;
import javax.lang.model.element.Modifier;
import javax.lang.model.type.ArrayType;
import javax.lang.model.type.TypeKind;
import javax.lang.model.type.TypeMirror;

/** Looks at each part of the source: where a rule of LANGUAGE.md is broken, an answer is not as due. */
final class Rules extends TreePathScanner<Void, Void> {
    private static final Set<String> LIBRARY = Set.of("String.length", "String.charAt", "String.isEmpty", "String.indexOf",
        "String.substring", "String.toCharArray", "System.arraycopy", "Arrays.copyOf", "Arrays.copyOfRange", "Arrays.fill",
        "Math.max", "Math.min", "Math.abs", "Math.floorMod", "Math.floorDiv", "Integer.compare", "Integer.bitCount",
        "Integer.max", "Integer.min", "Long.compare", "Long.bitCount");
    private static final Set<Tree.Kind> FORBIDDEN = Set.of(Tree.Kind.THROW, Tree.Kind.TRY, Tree.Kind.CATCH,
        Tree.Kind.SYNCHRONIZED, Tree.Kind.ASSERT, Tree.Kind.LAMBDA_EXPRESSION, Tree.Kind.MEMBER_REFERENCE,
        Tree.Kind.INSTANCE_OF, Tree.Kind.ANNOTATION, Tree.Kind.FLOAT_LITERAL, Tree.Kind.DOUBLE_LITERAL);
    private static final int DEEPEST = 8;

    private final Check c;
    private final CompilationUnitTree unit;
    private final Trees trees;
    private final Map<String, Set<String>> calls = new TreeMap<>();
    private final Set<String> open = new HashSet<>();
    private final Set<String> closed = new HashSet<>();
    private int classes = 0;
    private String method = "";

    Rules(Check c, CompilationUnitTree unit, Trees trees) {
        this.c = c;
        this.unit = unit;
        this.trees = trees;
    }

    private void keeps(String rule, boolean kept) {
        c.due(rule, kept, true);
    }

    @Override
    public Void scan(Tree tree, Void none) {
        if (tree != null && FORBIDDEN.contains(tree.getKind())) {
            keeps("rules 2 and 6: " + tree.getKind() + " " + tree, false);
        }
        return super.scan(tree, none);
    }

    // ---------------------------------------------------------------- classes, fields, methods

    @Override
    public Void visitClass(ClassTree tree, Void none) {
        classes++;
        Set<Modifier> flags = tree.getModifiers().getFlags();
        Tree around = getCurrentPath().getParentPath().getLeaf();
        keeps("rule 2: a class, " + tree.getSimpleName(), tree.getKind() == Tree.Kind.CLASS && flags.contains(Modifier.FINAL));
        if (classes == 1) {
            keeps("rule 1: public", flags.contains(Modifier.PUBLIC) && around instanceof CompilationUnitTree);
        } else {
            keeps("rule 2: static and inside, " + tree.getSimpleName(), flags.contains(Modifier.STATIC)
                && !flags.contains(Modifier.PUBLIC) && !flags.contains(Modifier.PROTECTED) && around instanceof ClassTree);
        }
        int fields = 0;
        for (Tree member : tree.getMembers()) {
            keeps("rule 5: no block of its own", !(member instanceof BlockTree));
            if (member instanceof VariableTree && !((VariableTree) member).getModifiers().getFlags().contains(Modifier.STATIC)) {
                fields++;
            }
        }
        keeps("rule 11: fields of " + tree.getSimpleName() + ", " + fields, fields <= 20);
        return super.visitClass(tree, none);
    }

    @Override
    public Void visitVariable(VariableTree tree, Void none) {
        TypeMirror type = trees.getTypeMirror(getCurrentPath());
        keeps("rule 3: " + tree, allowed(type));
        Set<Modifier> flags = tree.getModifiers().getFlags();
        Tree around = getCurrentPath().getParentPath().getLeaf();
        if (around instanceof ClassTree) {
            if (flags.contains(Modifier.STATIC)) {
                keeps("rule 5: " + tree, flags.contains(Modifier.FINAL) && constant(tree.getInitializer()));
            }
            face(tree.toString(), flags);
        }
        return super.visitVariable(tree, none);
    }

    /** A number, a text, or reckoned of such; arrays of constants are not used so far. */
    private static boolean constant(ExpressionTree tree) {
        if (tree instanceof ParenthesizedTree) {
            return constant(((ParenthesizedTree) tree).getExpression());
        }
        if (tree instanceof BinaryTree) {
            return constant(((BinaryTree) tree).getLeftOperand()) && constant(((BinaryTree) tree).getRightOperand());
        }
        if (tree instanceof UnaryTree) {
            return constant(((UnaryTree) tree).getExpression());
        }
        return tree instanceof LiteralTree || tree instanceof IdentifierTree;
    }

    private static boolean allowed(TypeMirror type) {
        if (type.getKind() == TypeKind.ARRAY) {
            // two dimensions are not used so far
            TypeMirror part = ((ArrayType) type).getComponentType();
            return part.getKind() != TypeKind.ARRAY && allowed(part);
        }
        return Set.of("int", "long", "boolean", "char", "byte", "short", "java.lang.String").contains(type.toString())
            || type.toString().startsWith("RailingsCount.");
    }

    /** What stands in the outer class is public or private; WildTest looks whether the public is the document's. */
    private void face(String what, Set<Modifier> flags) {
        if (getCurrentPath().getParentPath().getParentPath().getLeaf() instanceof CompilationUnitTree) {
            keeps("rule 1: " + what, flags.contains(Modifier.PUBLIC) || flags.contains(Modifier.PRIVATE));
        } else {
            keeps("rule 1: " + what, !flags.contains(Modifier.PUBLIC) && !flags.contains(Modifier.PROTECTED));
        }
    }

    @Override
    public Void visitMethod(MethodTree tree, Void none) {
        Element element = trees.getElement(getCurrentPath());
        boolean generated = trees.getSourcePositions().getEndPosition(unit, tree) < 0;
        if (generated) {
            return null;
        }
        Set<Modifier> flags = tree.getModifiers().getFlags();
        face(tree.getName().toString(), flags);
        if (element.getKind() == ElementKind.METHOD) {
            (flags.contains(Modifier.PUBLIC) ? open : closed).add(tree.getName().toString());
            keeps("rule 3: what " + tree.getName() + " answers", tree.getReturnType().toString().equals("void")
                || allowed(trees.getTypeMirror(new TreePath(getCurrentPath(), tree.getReturnType()))));
        }
        keeps("rule 11: parameters of " + tree.getName(), tree.getParameters().size() <= 7);
        keeps("rule 11: lines of " + tree.getName() + ", " + lines(tree), lines(tree) <= 60);
        keeps("rule 2: no types of its own, " + tree.getName(), tree.getTypeParameters().isEmpty() && tree.getThrows().isEmpty());
        method = nameOf(element);
        calls.put(method, new TreeSet<>());
        super.visitMethod(tree, none);
        method = "";
        return null;
    }

    private long lines(Tree tree) {
        LineMap map = unit.getLineMap();
        long from = map.getLineNumber(trees.getSourcePositions().getStartPosition(unit, tree));
        return map.getLineNumber(trees.getSourcePositions().getEndPosition(unit, tree)) - from + 1;
    }

    private static String nameOf(Element element) {
        return element.getEnclosingElement().getSimpleName() + "." + element.getSimpleName();
    }

    // ---------------------------------------------------------------- within methods

    @Override
    public Void visitMethodInvocation(MethodInvocationTree tree, Void none) {
        Element called = trees.getElement(new TreePath(getCurrentPath(), tree.getMethodSelect()));
        String name = nameOf(called);
        String owner = called.getEnclosingElement().toString();
        if (!owner.startsWith("RailingsCount")) {
            keeps("rule 4: " + name + " in " + tree, LIBRARY.contains(name) || name.equals("Object.<init>"));
        }
        if (!name.equals("Object.<init>")) {
            goes(name);
        }
        return super.visitMethodInvocation(tree, none);
    }

    @Override
    public Void visitNewClass(NewClassTree tree, Void none) {
        keeps("rules 2 and 4: " + tree, tree.getClassBody() == null
            && trees.getTypeMirror(getCurrentPath()).toString().startsWith("RailingsCount."));
        goes(nameOf(trees.getElement(getCurrentPath())));
        return super.visitNewClass(tree, none);
    }

    private void goes(String name) {
        if (!method.isEmpty()) {
            calls.get(method).add(name);
        }
    }

    /** Of the library no field is used, but how long an array is. */
    @Override
    public Void visitMemberSelect(MemberSelectTree tree, Void none) {
        Element element = trees.getElement(getCurrentPath());
        if (element != null && element.getKind() == ElementKind.FIELD) {
            String owner = element.getEnclosingElement().toString();
            keeps("rule 4: " + tree, owner.startsWith("RailingsCount") || owner.equals("Array"));
        }
        return super.visitMemberSelect(tree, none);
    }

    @Override
    public Void visitSwitch(SwitchTree tree, Void none) {
        keeps("rule 10: switch on " + tree.getExpression(), typeOf(tree.getExpression()).equals("int"));
        return super.visitSwitch(tree, none);
    }

    @Override
    public Void visitTypeCast(TypeCastTree tree, Void none) {
        TypeMirror type = trees.getTypeMirror(new TreePath(getCurrentPath(), tree.getType()));
        keeps("rule 7: " + tree, type.getKind().isPrimitive());
        return super.visitTypeCast(tree, none);
    }

    @Override
    public Void visitBinary(BinaryTree tree, Void none) {
        String left = typeOf(tree.getLeftOperand());
        String right = typeOf(tree.getRightOperand());
        boolean texts = left.equals("java.lang.String") || right.equals("java.lang.String");
        keeps("rules 6 and 10: " + tree, !texts);
        return super.visitBinary(tree, none);
    }

    @Override
    public Void visitCompoundAssignment(CompoundAssignmentTree tree, Void none) {
        keeps("rule 10: " + tree, !typeOf(tree.getVariable()).equals("java.lang.String"));
        return super.visitCompoundAssignment(tree, none);
    }

    private String typeOf(Tree tree) {
        return trees.getTypeMirror(new TreePath(getCurrentPath(), tree)).toString();
    }

    @Override
    public Void visitWhileLoop(WhileLoopTree tree, Void none) {
        keeps("rule 9: " + tree.getCondition(), !tree.getCondition().toString().equals("(true)"));
        return super.visitWhileLoop(tree, none);
    }

    @Override
    public Void visitForLoop(ForLoopTree tree, Void none) {
        keeps("rule 9: " + tree, tree.getCondition() != null && tree.getUpdate().size() == 1);
        return super.visitForLoop(tree, none);
    }

    @Override
    public Void visitEnhancedForLoop(EnhancedForLoopTree tree, Void none) {
        keeps("rule 9: an array, " + tree.getExpression(), typeOf(tree.getExpression()).endsWith("]"));
        return super.visitEnhancedForLoop(tree, none);
    }

    // ---------------------------------------------------------------- the whole

    void finish(ClassTree outer) {
        c.due("rule 1: the class", outer.getSimpleName().toString(), "RailingsCount");
        keeps("rule 11: classes, " + classes, classes > 1 && classes <= 12);
        keeps("methods were found", open.size() >= 53 && closed.size() > 50);
        for (String name : closed) {
            keeps("rule 1: a private method bears the name of a public one, " + name, !open.contains(name));
        }
        Map<String, Integer> deep = new HashMap<>();
        for (String name : calls.keySet()) {
            keeps("rule 8: recursion of " + name, !reaches(name, name, new HashSet<>()) || name.startsWith("Reader."));
            keeps("rule 11: calls below " + name + ", " + depth(name, deep), depth(name, deep) <= DEEPEST);
        }
    }

    private boolean reaches(String from, String to, Set<String> seen) {
        for (String next : calls.getOrDefault(from, Set.of())) {
            if (next.equals(to) || seen.add(next) && reaches(next, to, seen)) {
                return true;
            }
        }
        return false;
    }

    private boolean together(String a, String b) {
        return a.equals(b) || reaches(a, b, new HashSet<>()) && reaches(b, a, new HashSet<>());
    }

    /** How many calls stand open at most, the library's too; methods that call one another count as one. */
    private int depth(String name, Map<String, Integer> known) {
        if (known.containsKey(name)) {
            return known.get(name);
        }
        int below = 0;
        for (String one : calls.keySet()) {
            if (together(name, one)) {
                for (String next : calls.get(one)) {
                    if (!together(name, next)) {
                        below = Math.max(below, depth(next, known));
                    }
                }
            }
        }
        known.put(name, below + 1);
        return below + 1;
    }
}
