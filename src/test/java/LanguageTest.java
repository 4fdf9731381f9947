import com.sun.source.tree.BinaryTree;
import com.sun.source.tree.BlockTree;
import com.sun.source.tree.CatchTree;
import com.sun.source.tree.ClassTree;
import com.sun.source.tree.CompilationUnitTree;
import com.sun.source.tree.CompoundAssignmentTree;
import com.sun.source.tree.DoWhileLoopTree;
import com.sun.source.tree.ExpressionTree;
import com.sun.source.tree.ForLoopTree;
import com.sun.source.tree.ImportTree;
import com.sun.source.tree.LiteralTree;
import com.sun.source.tree.MemberSelectTree;
import com.sun.source.tree.MethodInvocationTree;
import com.sun.source.tree.MethodTree;
import com.sun.source.tree.NewClassTree;
import com.sun.source.tree.ThrowTree;
import com.sun.source.tree.Tree;
import com.sun.source.tree.TryTree;
import com.sun.source.tree.TypeCastTree;
import com.sun.source.tree.VariableTree;
import com.sun.source.tree.WhileLoopTree;
import com.sun.source.util.JavacTask;
import com.sun.source.util.TreePath;
import com.sun.source.util.TreePathScanner;
import com.sun.source.util.Trees;
import java.io.IOException;
import java.util.List;
import java.util.Map;
import java.util.Set;
import java.util.TreeMap;
import java.util.TreeSet;
import javax.lang.model.element.Element;
import javax.lang.model.element.ElementKind;
import javax.lang.model.element.ExecutableElement;
import javax.lang.model.element.Modifier;
import javax.lang.model.element.VariableElement;
import javax.lang.model.type.ArrayType;
import javax.lang.model.type.TypeKind;
import javax.lang.model.type.TypeMirror;
import javax.tools.JavaCompiler;
import javax.tools.StandardJavaFileManager;
import javax.tools.ToolProvider;

/**
 * Goes through the compiler's own tree of TankPlant.java for what LANGUAGE.md forbids. What a tree
 * does not show stays for the reader: that each index, divisor and reference is looked at before
 * it is used (rule 7), and that each loop comes to its end (rule 9). FaceTest looks at the members
 * (rules 1, 2 and 11), RoomTest at the room (rule 12). It is run from the root.
 */
public final class LanguageTest {
    private static final String SOURCE = "src/main/java/TankPlant.java";
    private static final int MOST_CLASSES = 12;
    private static final int MOST_LINES = 60;
    private static final int MOST_CALLS_DEEP = 8;

    private static final Map<Tree.Kind, Integer> RULE_AGAINST = Map.of(
            Tree.Kind.LAMBDA_EXPRESSION, 2, Tree.Kind.MEMBER_REFERENCE, 2,
            Tree.Kind.SYNCHRONIZED, 6, Tree.Kind.ASSERT, 6);
    private static final Set<String> EXCEPTIONS = Set.of("java.lang.IllegalStateException",
            "java.lang.IllegalArgumentException", "java.lang.IndexOutOfBoundsException", "java.lang.ArithmeticException",
            "java.lang.UnsupportedOperationException", "java.util.NoSuchElementException", "java.lang.RuntimeException");
    private static final Set<String> LIBRARY_TYPES = Set.of("java.lang.String", "java.lang.StringBuilder",
            "java.lang.Integer", "java.util.ArrayList", "java.util.List", "java.util.Iterator", "java.lang.Iterable",
            "java.lang.Comparable");
    /** The methods of the library that rule 4 allows, but for those of Math, Integer and Long. */
    private static final Map<String, Set<String>> LIBRARY = Map.of(
            "java.lang.Object", Set.of("<init>"),
            "java.lang.System", Set.of("arraycopy"),
            "java.util.Arrays", Set.of("copyOf", "copyOfRange", "fill"),
            "java.lang.String", Set.of("<init>", "length", "charAt", "isEmpty", "equals", "indexOf", "substring",
                    "toCharArray"),
            "java.lang.StringBuilder", Set.of("<init>", "append", "charAt", "setCharAt", "setLength", "deleteCharAt",
                    "reverse", "length", "toString"),
            "java.util.ArrayList", Set.of("<init>", "add", "get", "set", "remove", "size", "isEmpty", "clear"),
            "java.util.List", Set.of("add", "get", "set", "remove", "size", "isEmpty", "clear", "of"));
    private static final Set<String> STATIC_TYPES = Set.of("int", "long", "boolean", "char", "java.lang.String", "int[]",
            "long[]", "char[]", "byte[]");

    private static final Due due = new Due();

    public static void main(String[] args) throws IOException {
        JavaCompiler compiler = ToolProvider.getSystemJavaCompiler();
        StandardJavaFileManager files = compiler.getStandardFileManager(null, null, null);
        JavacTask task = (JavacTask) compiler.getTask(null, files, null, List.of("-proc:none"), null,
                files.getJavaFileObjects(SOURCE));
        CompilationUnitTree unit = task.parse().iterator().next();
        task.analyze();
        Rules rules = new Rules(unit, Trees.instance(task));
        rules.scan(unit, null);
        rules.checkTheWhole();
        due.end();
    }

    private static final class Rules extends TreePathScanner<Void, Void> {
        private final CompilationUnitTree unit;
        private final Trees trees;
        private final Map<String, Set<String>> calls = new TreeMap<>();
        private int classes = 0;
        private String method = "";
        private boolean isInConstructor = false;

        Rules(CompilationUnitTree unit, Trees trees) {
            this.unit = unit;
            this.trees = trees;
        }

        void checkTheWhole() {
            due.holds("no package line", unit.getPackage() == null);
            due.holds("one class in the file", unit.getTypeDecls().size() == 1);
            due.holds("rule 11: some twelve classes", classes <= MOST_CLASSES);
            for (String name : calls.keySet()) {
                due.holds("rules 8 and 11: at most eight calls deep, and none in a ring: " + name,
                        depthOf(name, MOST_CALLS_DEEP + 1) <= MOST_CALLS_DEEP);
            }
        }

        private int depthOf(String name, int limit) {
            int deepest = 0;
            if (limit > 0) {
                for (String called : calls.getOrDefault(name, Set.of())) {
                    deepest = Math.max(deepest, depthOf(called, limit - 1));
                }
            }
            return 1 + deepest;
        }

        private void rule(int number, Tree at, String what, boolean isKept) {
            long line = lineOf(trees.getSourcePositions().getStartPosition(unit, at));
            due.holds("rule " + number + ", line " + line + ": " + what, isKept);
        }

        private long lineOf(long position) {
            return position < 0 ? 0 : unit.getLineMap().getLineNumber(position);
        }

        private TypeMirror typeOf(Tree tree) {
            return trees.getTypeMirror(TreePath.getPath(unit, tree));
        }

        private Element elementOf(Tree tree) {
            return trees.getElement(TreePath.getPath(unit, tree));
        }

        @Override
        public Void scan(Tree tree, Void nothing) {
            if (tree != null && RULE_AGAINST.containsKey(tree.getKind())) {
                rule(RULE_AGAINST.get(tree.getKind()), tree, "no " + tree.getKind(), false);
            }
            return super.scan(tree, nothing);
        }

        @Override
        public Void visitImport(ImportTree tree, Void nothing) {
            String name = tree.getQualifiedIdentifier().toString();
            boolean isListed = LIBRARY_TYPES.contains(name) || EXCEPTIONS.contains(name) || LIBRARY.containsKey(name);
            rule(4, tree, "no import of " + name, !tree.isStatic() && isListed);
            return null;
        }

        @Override
        public Void visitClass(ClassTree tree, Void nothing) {
            classes++;
            for (Tree member : tree.getMembers()) {
                boolean isBlock = member.getKind() == Tree.Kind.BLOCK;
                rule(5, member, "no static initialiser block", !isBlock || !((BlockTree) member).isStatic());
            }
            return super.visitClass(tree, nothing);
        }

        @Override
        public Void visitMethod(MethodTree tree, Void nothing) {
            String name = tree.getName().toString();
            rule(6, tree, "no " + name + " of its own", !Set.of("equals", "hashCode", "toString").contains(name));
            long start = trees.getSourcePositions().getStartPosition(unit, tree);
            long end = trees.getSourcePositions().getEndPosition(unit, tree);
            rule(11, tree, name + " is short", end < 0 || lineOf(end) - lineOf(start) < MOST_LINES);
            if (tree.getReturnType() != null) {
                TypeMirror type = typeOf(tree.getReturnType());
                rule(3, tree, "the type of " + name, type.getKind() == TypeKind.VOID || isAllowed(type));
            }
            method = nameOf(elementOf(tree));
            isInConstructor = name.equals("<init>");
            super.visitMethod(tree, nothing);
            method = "";
            isInConstructor = false;
            return null;
        }

        private String nameOf(Element called) {
            return called.getEnclosingElement() + "." + called;
        }

        @Override
        public Void visitVariable(VariableTree tree, Void nothing) {
            TypeMirror type = typeOf(tree);
            rule(3, tree, "type " + type, isAllowed(type) || EXCEPTIONS.contains(type.toString()));
            Element element = elementOf(tree);
            if (element.getKind() == ElementKind.FIELD && element.getModifiers().contains(Modifier.STATIC)) {
                rule(5, tree, "a constant of type " + type, STATIC_TYPES.contains(type.toString()));
                rule(5, tree, "written out", element.getModifiers().contains(Modifier.FINAL) && tree.getInitializer() != null);
            }
            return super.visitVariable(tree, nothing);
        }

        private boolean isAllowed(TypeMirror type) {
            if (type.getKind() == TypeKind.ARRAY) {
                TypeMirror inner = ((ArrayType) type).getComponentType();
                boolean isRow = inner.getKind() == TypeKind.ARRAY;
                return isRow ? ((ArrayType) inner).getComponentType().getKind().isPrimitive() : isAllowed(inner);
            }
            return type.getKind().isPrimitive() || isOwn(type.toString()) || LIBRARY_TYPES.contains(type.toString());
        }

        private boolean isOwn(String name) {
            return name.equals("TankPlant") || name.startsWith("TankPlant.");
        }

        @Override
        public Void visitMethodInvocation(MethodInvocationTree tree, Void nothing) {
            noteCall(tree, elementOf(tree.getMethodSelect()));
            return super.visitMethodInvocation(tree, nothing);
        }

        private void noteCall(Tree tree, Element called) {
            String owner = called.getEnclosingElement().toString();
            if (isOwn(owner)) {
                calls.computeIfAbsent(method, name -> new TreeSet<>()).add(nameOf(called));
                return;
            }
            String name = called.getSimpleName().toString();
            boolean isOfNumbers = Set.of("java.lang.Math", "java.lang.Integer", "java.lang.Long").contains(owner);
            boolean isListed = LIBRARY.getOrDefault(owner, Set.of()).contains(name);
            rule(4, tree, "no " + owner + "." + name, isOfNumbers ? isOfWholeNumbers((ExecutableElement) called) : isListed);
        }

        private boolean isOfWholeNumbers(ExecutableElement called) {
            boolean isRight = !called.getSimpleName().toString().endsWith("Exact");
            for (VariableElement parameter : called.getParameters()) {
                TypeKind kind = parameter.asType().getKind();
                isRight = isRight && (kind == TypeKind.INT || kind == TypeKind.LONG);
            }
            return isRight && called.getModifiers().contains(Modifier.STATIC);
        }

        @Override
        public Void visitNewClass(NewClassTree tree, Void nothing) {
            Element made = elementOf(tree);
            String owner = made.getEnclosingElement().toString();
            if (EXCEPTIONS.contains(owner)) {
                List<? extends ExpressionTree> texts = tree.getArguments();
                boolean isWritten = texts.isEmpty() || texts.get(0).getKind() == Tree.Kind.STRING_LITERAL;
                rule(6, tree, "an exception with a written text", isWritten);
                boolean isThrown = getCurrentPath().getParentPath().getLeaf().getKind() == Tree.Kind.THROW;
                rule(6, tree, "made where it is thrown", isThrown);
            } else {
                noteCall(tree, made);
            }
            return super.visitNewClass(tree, nothing);
        }

        @Override
        public Void visitThrow(ThrowTree tree, Void nothing) {
            rule(6, tree, "throw new", tree.getExpression().getKind() == Tree.Kind.NEW_CLASS);
            rule(6, tree, "an exception of the list", EXCEPTIONS.contains(typeOf(tree.getExpression()).toString()));
            rule(6, tree, "no throw in a constructor", !isInConstructor);
            return super.visitThrow(tree, nothing);
        }

        @Override
        public Void visitTry(TryTree tree, Void nothing) {
            rule(6, tree, "no finally", tree.getFinallyBlock() == null);
            rule(6, tree, "no resources", tree.getResources().isEmpty());
            for (CatchTree caught : tree.getCatches()) {
                String type = typeOf(caught.getParameter()).toString();
                rule(6, caught, "no catch of " + type, EXCEPTIONS.contains(type));
            }
            return super.visitTry(tree, nothing);
        }

        @Override
        public Void visitBinary(BinaryTree tree, Void nothing) {
            boolean isText = isText(tree.getLeftOperand()) || isText(tree.getRightOperand());
            boolean isNull = tree.getLeftOperand().getKind() == Tree.Kind.NULL_LITERAL
                    || tree.getRightOperand().getKind() == Tree.Kind.NULL_LITERAL;
            rule(6, tree, "no + and no == of texts or Integers", !isText || isNull);
            return super.visitBinary(tree, nothing);
        }

        @Override
        public Void visitCompoundAssignment(CompoundAssignmentTree tree, Void nothing) {
            rule(10, tree, "no += of texts", !isText(tree.getVariable()));
            return super.visitCompoundAssignment(tree, nothing);
        }

        private boolean isText(Tree operand) {
            return Set.of("java.lang.String", "java.lang.Integer").contains(typeOf(operand).toString());
        }

        @Override
        public Void visitTypeCast(TypeCastTree tree, Void nothing) {
            rule(6, tree, "no cast but of numbers", typeOf(tree.getType()).getKind().isPrimitive());
            return super.visitTypeCast(tree, nothing);
        }

        @Override
        public Void visitMemberSelect(MemberSelectTree tree, Void nothing) {
            Element element = elementOf(tree);
            if (element != null && element.getKind() == ElementKind.FIELD) {
                String owner = element.getEnclosingElement().toString();
                rule(4, tree, "no field of " + owner, isOwn(owner) || owner.equals("Array"));
            }
            return super.visitMemberSelect(tree, nothing);
        }

        @Override
        public Void visitLiteral(LiteralTree tree, Void nothing) {
            if (tree.getValue() instanceof String) {
                boolean isPlain = ((String) tree.getValue()).chars().allMatch(sign -> sign >= 1 && sign <= 127);
                rule(4, tree, "signs 1 to 127 in a text", isPlain);
            }
            return super.visitLiteral(tree, nothing);
        }

        @Override
        public Void visitForLoop(ForLoopTree tree, Void nothing) {
            rule(9, tree, "a loop with a bound", tree.getCondition() != null && isBound(tree.getCondition()));
            return super.visitForLoop(tree, nothing);
        }

        @Override
        public Void visitWhileLoop(WhileLoopTree tree, Void nothing) {
            rule(9, tree, "a loop with a bound", isBound(tree.getCondition()));
            return super.visitWhileLoop(tree, nothing);
        }

        @Override
        public Void visitDoWhileLoop(DoWhileLoopTree tree, Void nothing) {
            rule(9, tree, "a loop with a bound", isBound(tree.getCondition()));
            return super.visitDoWhileLoop(tree, nothing);
        }

        private boolean isBound(ExpressionTree condition) {
            return !condition.toString().contains("true");
        }
    }
}
