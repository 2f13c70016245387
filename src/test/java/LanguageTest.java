import com.sun.source.tree.AssertTree;
import com.sun.source.tree.BinaryTree;
import com.sun.source.tree.BlockTree;
import com.sun.source.tree.ClassTree;
import com.sun.source.tree.CompilationUnitTree;
import com.sun.source.tree.ExpressionTree;
import com.sun.source.tree.ForLoopTree;
import com.sun.source.tree.LambdaExpressionTree;
import com.sun.source.tree.LiteralTree;
import com.sun.source.tree.MemberReferenceTree;
import com.sun.source.tree.MethodInvocationTree;
import com.sun.source.tree.MethodTree;
import com.sun.source.tree.NewClassTree;
import com.sun.source.tree.PackageTree;
import com.sun.source.tree.ParenthesizedTree;
import com.sun.source.tree.SynchronizedTree;
import com.sun.source.tree.ThrowTree;
import com.sun.source.tree.Tree;
import com.sun.source.tree.TryTree;
import com.sun.source.tree.VariableTree;
import com.sun.source.tree.WhileLoopTree;
import com.sun.source.util.JavacTask;
import com.sun.source.util.TreePath;
import com.sun.source.util.TreePathScanner;
import com.sun.source.util.Trees;
import java.io.File;
import java.io.IOException;
import java.util.HashMap;
import java.util.HashSet;
import java.util.List;
import java.util.Map;
import java.util.Set;
import javax.lang.model.element.Element;
import javax.lang.model.element.ElementKind;
import javax.lang.model.element.ExecutableElement;
import javax.lang.model.element.Modifier;
import javax.lang.model.element.VariableElement;
import javax.lang.model.type.ArrayType;
import javax.lang.model.type.DeclaredType;
import javax.lang.model.type.TypeKind;
import javax.lang.model.type.TypeMirror;
import javax.tools.JavaCompiler;
import javax.tools.StandardJavaFileManager;
import javax.tools.ToolProvider;

/** LANGUAGE.md, as far as the compiler's own tree of the program tells it; run from the project's root. */
public final class LanguageTest {
    private static final File SOURCE = new File("src/main/java/DavRoom.java");
    private static final Set<String> FACE = Set.of("feed", "end", "request", "octet", "tick", "keep", "crash", "look", "lock", "count");

    /** Where the rule says "some", a few more than it names. */
    private static final int MOST_LINES = 66, MOST_CLASSES = 13, MOST_FIELDS = 22;
    private static final int MOST_PARAMETERS = 7, MOST_DEPTH = 8;

    private static final Set<String> TYPES = Set.of("java.lang.String", "java.lang.StringBuilder", "java.lang.Integer", "java.util.ArrayList", "java.util.List",
            "java.util.Iterator", "java.lang.Iterable", "java.lang.Comparable");
    private static final Map<String, Set<String>> LIBRARY = Map.ofEntries(
            Map.entry("java.lang.Object", Set.of("<init>", "clone")),
            Map.entry("java.lang.Enum", Set.of("<init>", "ordinal", "name")),
            Map.entry("java.lang.Record", Set.of("<init>")),
            Map.entry("java.lang.String", Set.of("<init>", "length", "charAt", "isEmpty", "equals", "indexOf", "substring", "toCharArray")),
            Map.entry("java.lang.StringBuilder",
                    Set.of("<init>", "append", "charAt", "setCharAt", "setLength", "deleteCharAt", "reverse", "length", "toString")),
            Map.entry("java.util.ArrayList", Set.of("<init>", "add", "get", "set", "remove", "size", "isEmpty", "clear")),
            Map.entry("java.util.List", Set.of("add", "get", "set", "remove", "size", "isEmpty", "clear", "of")),
            Map.entry("java.util.Iterator", Set.of("hasNext", "next")),
            Map.entry("java.lang.Iterable", Set.of("iterator")),
            Map.entry("java.lang.Comparable", Set.of("compareTo")),
            Map.entry("java.lang.System", Set.of("arraycopy")),
            Map.entry("java.util.Arrays", Set.of("copyOf", "copyOfRange", "fill")));

    private final CompilationUnitTree unit;
    private final Trees trees;
    private final Map<Element, Set<Element>> calls = new HashMap<>();
    private int classes;

    private LanguageTest(CompilationUnitTree unit, Trees trees) {
        this.unit = unit;
        this.trees = trees;
    }

    public static void main(String[] args) throws IOException {
        JavaCompiler compiler = ToolProvider.getSystemJavaCompiler();
        try (StandardJavaFileManager files = compiler.getStandardFileManager(null, null, null)) {
            List<String> options = List.of("--release", "17", "-proc:none");
            JavacTask task = (JavacTask) compiler.getTask(null, files, null, options, null, files.getJavaFileObjects(SOURCE));
            CompilationUnitTree unit = task.parse().iterator().next();
            task.analyze();
            new LanguageTest(unit, Trees.instance(task)).run();
        }
        Room.finish();
    }

    private void run() {
        new Rules().scan(unit, null);
        holds("rule 11: some twelve classes", classes <= MOST_CLASSES);
        for (Element method : calls.keySet()) {
            holds("rule 11: calls from " + method.getEnclosingElement() + "." + method + " go at most eight deep", depth(method) <= MOST_DEPTH);
        }
    }

    private static void holds(String rule, boolean kept) {
        Room.due(rule, kept ? 1 : 0, 1);
    }

    /** How many calls of the program's own are open below this one; calls of one recursion are not counted. */
    private int depth(Element method) {
        int deepest = 0;
        for (Element called : calls.getOrDefault(method, Set.of())) {
            if (calls.containsKey(called) && !reaches(called, method, new HashSet<>())) {
                deepest = Math.max(deepest, 1 + depth(called));
            }
        }
        return deepest;
    }

    private boolean reaches(Element from, Element to, Set<Element> seen) {
        if (from.equals(to)) {
            return true;
        }
        for (Element called : calls.getOrDefault(from, Set.of())) {
            if (seen.add(called) && reaches(called, to, seen)) {
                return true;
            }
        }
        return false;
    }

    private final class Rules extends TreePathScanner<Void, Void> {
        private long line(long position) {
            return unit.getLineMap().getLineNumber(position);
        }

        private String at(Tree node) {
            return " (line " + line(trees.getSourcePositions().getStartPosition(unit, node)) + ")";
        }

        private Void never(String rule, Tree node) {
            holds(rule + at(node), false);
            return null;
        }

        private Element element(Tree node) {
            return trees.getElement(trees.getPath(unit, node));
        }

        private boolean isOwn(Element one) {
            return one != null && (one.toString().equals("DavRoom") || isOwn(one.getEnclosingElement()));
        }

        @Override
        public Void visitPackage(PackageTree node, Void none) {
            return never("no package line", node);
        }

        @Override
        public Void visitClass(ClassTree node, Void none) {
            classes++;
            Element one = element(node);
            boolean isTop = one.toString().equals("DavRoom");
            holds("rule 2: no local or anonymous class" + at(node), isTop || getCurrentPath().getParentPath().getLeaf() instanceof ClassTree);
            holds("rules 1 and 2: a class inside is static, and private or package-visible" + at(node), isTop
                    || one.getModifiers().contains(Modifier.STATIC) && !one.getModifiers().contains(Modifier.PUBLIC) && !one.getModifiers().contains(Modifier.PROTECTED));
            int fields = 0;
            for (Tree member : node.getMembers()) {
                fields += member instanceof VariableTree && !element(member).getModifiers().contains(Modifier.STATIC) ? 1 : 0;
                holds("rule 5: no static initialiser block" + at(member), !(member instanceof BlockTree block && block.isStatic()));
            }
            holds("rule 11: some twenty fields" + at(node), fields <= MOST_FIELDS);
            return super.visitClass(node, none);
        }

        @Override
        public Void visitMethod(MethodTree node, Void none) {
            Element method = element(node);
            calls.putIfAbsent(method, new HashSet<>());
            long first = line(trees.getSourcePositions().getStartPosition(unit, node));
            long last = line(trees.getSourcePositions().getEndPosition(unit, node));
            holds("rule 11: methods stay short" + at(node), last - first < MOST_LINES);
            holds("rule 11: at most seven parameters" + at(node), node.getParameters().size() <= MOST_PARAMETERS);
            boolean hidden = method.getModifiers().contains(Modifier.PRIVATE);
            holds("rule 1: no private method bears the name of a public one" + at(node), !hidden || !FACE.contains(node.getName().toString()));
            holds("rule 6: no throws" + at(node), node.getThrows().isEmpty());
            return super.visitMethod(node, none);
        }

        @Override
        public Void visitVariable(VariableTree node, Void none) {
            VariableElement one = (VariableElement) element(node);
            holds("rule 3: the type " + one.asType() + at(node), isFine(one.asType()));
            if (one.getKind() == ElementKind.FIELD && one.getModifiers().contains(Modifier.STATIC)) {
                holds("rule 5: static fields are final" + at(node), one.getModifiers().contains(Modifier.FINAL));
                holds("rule 5: a constant, or a row that is written out" + at(node), one.getConstantValue() != null || one.asType() instanceof ArrayType);
            }
            return super.visitVariable(node, none);
        }

        private boolean isFine(TypeMirror type) {
            if (type instanceof ArrayType row) {
                TypeMirror part = row.getComponentType();
                boolean isTable = part instanceof ArrayType inner && inner.getComponentType().getKind().isPrimitive();
                return isTable || part.getKind().isPrimitive() || isOwnType(part);
            }
            if (type instanceof DeclaredType declared) {
                boolean partsFine = declared.getTypeArguments().stream().allMatch(this::isFine);
                return partsFine && (isOwnType(type) || TYPES.contains(declared.asElement().toString()));
            }
            return type.getKind().isPrimitive() || type.getKind() == TypeKind.TYPEVAR;
        }

        private boolean isOwnType(TypeMirror type) {
            return type.getKind() == TypeKind.TYPEVAR || type instanceof DeclaredType declared && isOwn(declared.asElement());
        }

        @Override
        public Void visitMethodInvocation(MethodInvocationTree node, Void none) {
            checkCalled((ExecutableElement) element(node), node);
            return super.visitMethodInvocation(node, none);
        }

        @Override
        public Void visitNewClass(NewClassTree node, Void none) {
            checkCalled((ExecutableElement) element(node), node);
            return super.visitNewClass(node, none);
        }

        private void checkCalled(ExecutableElement called, Tree node) {
            String owner = called.getEnclosingElement().toString();
            String name = called.getSimpleName().toString();
            boolean listed = LIBRARY.getOrDefault(owner, Set.of()).contains(name);
            holds("rule 4: of the library, " + owner + "." + name + at(node), isOwn(called) || listed || isOfNumbers(owner, called));
            Element caller = around();
            if (caller != null) {
                calls.computeIfAbsent(caller, one -> new HashSet<>()).add(called);
            }
        }

        private boolean isOfNumbers(String owner, ExecutableElement called) {
            boolean whole = called.getParameters().stream().allMatch(one -> one.asType().getKind() == TypeKind.INT || one.asType().getKind() == TypeKind.LONG);
            return Set.of("java.lang.Integer", "java.lang.Long", "java.lang.Math").contains(owner) && whole && !called.getParameters().isEmpty()
                    && called.getModifiers().contains(Modifier.STATIC) && !called.getSimpleName().toString().endsWith("Exact");
        }

        private Element around() {
            for (TreePath path = getCurrentPath(); path != null; path = path.getParentPath()) {
                if (path.getLeaf() instanceof MethodTree) {
                    return trees.getElement(path);
                }
            }
            return null;
        }

        @Override
        public Void visitBinary(BinaryTree node, Void none) {
            boolean compares = node.getKind() == Tree.Kind.EQUAL_TO || node.getKind() == Tree.Kind.NOT_EQUAL_TO;
            boolean left = isText(node.getLeftOperand()), right = isText(node.getRightOperand());
            holds("rule 6: no == or != between two Strings" + at(node), !compares || !left || !right);
            holds("rule 10: no + of texts" + at(node), node.getKind() != Tree.Kind.PLUS || !left && !right);
            return super.visitBinary(node, none);
        }

        private boolean isText(ExpressionTree node) {
            TypeMirror type = trees.getTypeMirror(trees.getPath(unit, node));
            return type != null && type.toString().equals("java.lang.String");
        }

        @Override
        public Void visitForLoop(ForLoopTree node, Void none) {
            holds("rule 9: a loop with an end" + at(node), node.getCondition() != null && !isAlways(node.getCondition()));
            return super.visitForLoop(node, none);
        }

        @Override
        public Void visitWhileLoop(WhileLoopTree node, Void none) {
            holds("rule 9: a loop with an end" + at(node), !isAlways(node.getCondition()));
            return super.visitWhileLoop(node, none);
        }

        private boolean isAlways(ExpressionTree condition) {
            ExpressionTree inner = condition instanceof ParenthesizedTree wrapped ? wrapped.getExpression() : condition;
            return inner instanceof LiteralTree;
        }

        @Override
        public Void visitTry(TryTree node, Void none) {
            return never("rule 6: no try", node);
        }

        @Override
        public Void visitThrow(ThrowTree node, Void none) {
            return never("rule 6: no throw", node);
        }

        @Override
        public Void visitSynchronized(SynchronizedTree node, Void none) {
            return never("rule 6: no synchronized", node);
        }

        @Override
        public Void visitAssert(AssertTree node, Void none) {
            return never("rule 6: no assert", node);
        }

        @Override
        public Void visitLambdaExpression(LambdaExpressionTree node, Void none) {
            return never("rule 2: no lambda", node);
        }

        @Override
        public Void visitMemberReference(MemberReferenceTree node, Void none) {
            return never("rule 2: no method reference", node);
        }
    }
}
