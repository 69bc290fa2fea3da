import com.sun.source.tree.ArrayAccessTree;
import com.sun.source.tree.AssignmentTree;
import com.sun.source.tree.BinaryTree;
import com.sun.source.tree.ClassTree;
import com.sun.source.tree.CompilationUnitTree;
import com.sun.source.tree.CompoundAssignmentTree;
import com.sun.source.tree.ExpressionTree;
import com.sun.source.tree.ForLoopTree;
import com.sun.source.tree.LiteralTree;
import com.sun.source.tree.MethodInvocationTree;
import com.sun.source.tree.MethodTree;
import com.sun.source.tree.NewArrayTree;
import com.sun.source.tree.NewClassTree;
import com.sun.source.tree.ParenthesizedTree;
import com.sun.source.tree.Tree;
import com.sun.source.tree.TypeCastTree;
import com.sun.source.tree.UnaryTree;
import com.sun.source.tree.VariableTree;
import com.sun.source.tree.WhileLoopTree;
import com.sun.source.util.JavacTask;
import com.sun.source.util.TreePath;
import com.sun.source.util.TreePathScanner;
import com.sun.source.util.Trees;
import java.util.Set;
import java.util.TreeMap;
import java.util.TreeSet;
import javax.lang.model.element.Element;
import javax.lang.model.element.ElementKind;
import javax.lang.model.element.Modifier;
import javax.lang.model.type.ArrayType;
import javax.lang.model.type.DeclaredType;
import javax.lang.model.type.TypeKind;
import javax.lang.model.type.TypeMirror;

/**
 * Goes through the compiler's tree of the class and keeps each place at which a rule of LANGUAGE.md is broken. It is
 * stricter than the rules where the class has no use for what they allow (no lists, enums, casts of objects).
 */
final class LanguageTree extends TreePathScanner<Void, Void> {
    private static final String FACE = "DownhillSong";
    private static final Set<String> LIBRARY = Set.of("String.length", "String.charAt", "Math.max", "Math.min", "Math.abs",
        "Integer.bitCount", "System.arraycopy", "Arrays.fill", "Object.<init>");
    private static final Set<Tree.Kind> FORBIDDEN = Set.of(Tree.Kind.THROW, Tree.Kind.TRY, Tree.Kind.SYNCHRONIZED, Tree.Kind.ASSERT,
        Tree.Kind.LAMBDA_EXPRESSION, Tree.Kind.MEMBER_REFERENCE, Tree.Kind.ANNOTATION, Tree.Kind.INTERFACE, Tree.Kind.ENUM,
        Tree.Kind.RECORD, Tree.Kind.DOUBLE_LITERAL, Tree.Kind.FLOAT_LITERAL, Tree.Kind.INSTANCE_OF, Tree.Kind.SWITCH_EXPRESSION,
        Tree.Kind.ENHANCED_FOR_LOOP, Tree.Kind.PARAMETERIZED_TYPE);
    private static final Set<TypeKind> NUMBERS = Set.of(TypeKind.INT, TypeKind.LONG, TypeKind.SHORT, TypeKind.BYTE, TypeKind.CHAR,
        TypeKind.BOOLEAN);
    private static final Set<String> STATIC_TYPES = Set.of("int", "long", "boolean", "char", "java.lang.String", "int[]", "long[]",
        "char[]", "byte[]");

    /** A method or constructor, by its class and its parameters' types. */
    static final class Method {
        String name;
        String simpleName;
        boolean inTheFace;
        int lines;
        int parameters;
        final Set<String> calls = new TreeSet<>();
    }

    final Set<String> broken = new TreeSet<>();
    final Set<String> classes = new TreeSet<>();
    final TreeMap<String, Integer> fields = new TreeMap<>();
    final TreeMap<String, Method> methods = new TreeMap<>();
    int loops;
    private final Trees trees;
    private final CompilationUnitTree unit;
    private Method now;

    LanguageTree(JavacTask task, CompilationUnitTree unit) {
        trees = Trees.instance(task);
        this.unit = unit;
    }

    /** Names of the public methods. */
    Set<String> faceNames() {
        Set<String> names = new TreeSet<>();
        methods.values().stream().filter(m -> m.inTheFace).forEach(m -> names.add(m.simpleName));
        // Every class has a constructor.
        names.remove("<init>");
        return names;
    }

    @Override
    public Void scan(Tree tree, Void p) {
        if (tree != null && FORBIDDEN.contains(tree.getKind())) {
            breaks("rules 2, 3, 6: " + tree.getKind(), tree);
        }
        return super.scan(tree, p);
    }

    @Override
    public Void visitClass(ClassTree tree, Void p) {
        classes.add(tree.getSimpleName().toString());
        Set<Modifier> modifiers = tree.getModifiers().getFlags();
        boolean isFace = tree.getSimpleName().contentEquals(FACE);
        if (isFace && !modifiers.equals(Set.of(Modifier.PUBLIC, Modifier.FINAL))) {
            breaks("rule 1: the class", tree);
        }
        boolean nested = getCurrentPath().getParentPath().getLeaf() instanceof ClassTree;
        if (!isFace && (!nested || !modifiers.contains(Modifier.STATIC) || modifiers.contains(Modifier.PUBLIC)
            || modifiers.contains(Modifier.PROTECTED))) {
            breaks("rule 2: a class inside", tree);
        }
        int own = 0;
        for (Tree member : tree.getMembers()) {
            if (member instanceof VariableTree field) {
                own += field.getModifiers().getFlags().contains(Modifier.STATIC) ? 0 : 1;
                memberSeen(isFace, field, field.getModifiers().getFlags(), field.getName().contentEquals("NONE"));
            } else if (member instanceof MethodTree method) {
                Set<Modifier> flags = method.getModifiers().getFlags();
                memberSeen(isFace, method, flags, flags.contains(Modifier.PUBLIC));
            } else if (member.getKind() == Tree.Kind.BLOCK) {
                breaks("rule 5: an initialiser block", member);
            }
        }
        fields.put(tree.getSimpleName().toString(), own);
        return super.visitClass(tree, p);
    }

    private void memberSeen(boolean isFace, Tree member, Set<Modifier> flags, boolean open) {
        if (isFace && flags.contains(Modifier.PUBLIC) != open || isFace && !open && !flags.contains(Modifier.PRIVATE)
            || flags.contains(Modifier.PROTECTED)) {
            breaks("rule 1: a member", member);
        }
    }

    @Override
    public Void visitVariable(VariableTree tree, Void p) {
        Element element = trees.getElement(getCurrentPath());
        TypeMirror type = element.asType();
        if (!isAllowed(type)) {
            breaks("rule 3: type " + type, tree);
        }
        if (element.getKind() == ElementKind.FIELD && element.getModifiers().contains(Modifier.STATIC)) {
            boolean writtenOut = tree.getInitializer() != null && (type.getKind() != TypeKind.ARRAY
                || tree.getInitializer() instanceof NewArrayTree row && row.getInitializers() != null);
            if (!element.getModifiers().contains(Modifier.FINAL) || !STATIC_TYPES.contains(type.toString()) || !writtenOut) {
                breaks("rule 5: a static field", tree);
            }
        }
        return super.visitVariable(tree, p);
    }

    private static boolean isAllowed(TypeMirror type) {
        if (type instanceof ArrayType row) {
            TypeMirror of = row.getComponentType();
            return NUMBERS.contains(of.getKind()) || isOwn(of);
        }
        return NUMBERS.contains(type.getKind()) || isOwn(type) || type.toString().equals("java.lang.String");
    }

    private static boolean isOwn(TypeMirror type) {
        return type instanceof DeclaredType && type.toString().startsWith(FACE);
    }

    @Override
    public Void visitMethod(MethodTree tree, Void p) {
        Element element = trees.getElement(getCurrentPath());
        Method before = now;
        now = new Method();
        now.name = nameOf(element);
        now.simpleName = tree.getName().toString();
        now.inTheFace = element.getModifiers().contains(Modifier.PUBLIC);
        now.parameters = tree.getParameters().size();
        now.lines = line(trees.getSourcePositions().getEndPosition(unit, tree))
            - line(trees.getSourcePositions().getStartPosition(unit, tree)) + 1;
        methods.put(now.name, now);
        super.visitMethod(tree, p);
        now = before;
        return null;
    }

    private int line(long position) {
        return position < 0 ? 0 : (int) unit.getLineMap().getLineNumber(position);
    }

    private static String nameOf(Element element) {
        return element.getEnclosingElement().getSimpleName() + "." + element;
    }

    @Override
    public Void visitMethodInvocation(MethodInvocationTree tree, Void p) {
        called(trees.getElement(getCurrentPath()), tree);
        return super.visitMethodInvocation(tree, p);
    }

    @Override
    public Void visitNewClass(NewClassTree tree, Void p) {
        if (tree.getClassBody() != null) {
            breaks("rule 2: a class without a name", tree);
        }
        called(trees.getElement(getCurrentPath()), tree);
        return super.visitNewClass(tree, p);
    }

    private void called(Element element, Tree tree) {
        if (isOwn(element.getEnclosingElement().asType())) {
            if (now != null) {
                now.calls.add(nameOf(element));
            }
        } else if (!LIBRARY.contains(element.getEnclosingElement().getSimpleName() + "." + element.getSimpleName())) {
            breaks("rule 4: " + nameOf(element), tree);
        }
    }

    @Override
    public Void visitNewArray(NewArrayTree tree, Void p) {
        if (tree.getDimensions().size() > 1) {
            breaks("rule 3: a row of rows", tree);
        }
        return super.visitNewArray(tree, p);
    }

    @Override
    public Void visitBinary(BinaryTree tree, Void p) {
        boolean isText = isText(tree.getLeftOperand()) || isText(tree.getRightOperand());
        if (isText) {
            breaks("rules 6, 10: " + tree.getKind() + " of texts", tree);
        }
        boolean divides = tree.getKind() == Tree.Kind.DIVIDE || tree.getKind() == Tree.Kind.REMAINDER;
        if (divides && tree.getRightOperand() instanceof LiteralTree number && number.getValue().equals(0)) {
            breaks("rule 7: a division by 0", tree);
        }
        return super.visitBinary(tree, p);
    }

    private boolean isText(ExpressionTree tree) {
        TypeMirror type = trees.getTypeMirror(new TreePath(getCurrentPath(), tree));
        return type != null && type.toString().equals("java.lang.String");
    }

    @Override
    public Void visitTypeCast(TypeCastTree tree, Void p) {
        if (!NUMBERS.contains(trees.getTypeMirror(new TreePath(getCurrentPath(), tree.getType())).getKind())) {
            breaks("rule 6: a cast", tree);
        }
        return super.visitTypeCast(tree, p);
    }

    @Override
    public Void visitAssignment(AssignmentTree tree, Void p) {
        changed(tree.getVariable());
        return super.visitAssignment(tree, p);
    }

    @Override
    public Void visitCompoundAssignment(CompoundAssignmentTree tree, Void p) {
        changed(tree.getVariable());
        if (isText(tree.getVariable())) {
            breaks("rule 10: texts joined", tree);
        }
        return super.visitCompoundAssignment(tree, p);
    }

    @Override
    public Void visitUnary(UnaryTree tree, Void p) {
        changed(tree.getExpression());
        return super.visitUnary(tree, p);
    }

    private void changed(ExpressionTree tree) {
        if (tree instanceof ArrayAccessTree at) {
            Element row = trees.getElement(new TreePath(new TreePath(getCurrentPath(), tree), at.getExpression()));
            if (row != null && row.getModifiers().contains(Modifier.STATIC)) {
                breaks("rule 5: a static row is changed", tree);
            }
        }
    }

    @Override
    public Void visitWhileLoop(WhileLoopTree tree, Void p) {
        loops++;
        endSeen(tree.getCondition(), tree);
        return super.visitWhileLoop(tree, p);
    }

    @Override
    public Void visitForLoop(ForLoopTree tree, Void p) {
        loops++;
        endSeen(tree.getCondition(), tree);
        return super.visitForLoop(tree, p);
    }

    private void endSeen(ExpressionTree condition, Tree loop) {
        ExpressionTree inner = condition instanceof ParenthesizedTree in ? in.getExpression() : condition;
        if (inner == null || inner instanceof LiteralTree) {
            breaks("rule 9: a loop without an end", loop);
        }
    }

    private void breaks(String rule, Tree tree) {
        broken.add(rule + " at line " + line(trees.getSourcePositions().getStartPosition(unit, tree)));
    }
}
