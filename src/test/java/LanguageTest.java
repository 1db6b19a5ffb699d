import com.sun.source.tree.AssertTree;
import com.sun.source.tree.BinaryTree;
import com.sun.source.tree.BlockTree;
import com.sun.source.tree.CatchTree;
import com.sun.source.tree.ClassTree;
import com.sun.source.tree.CompilationUnitTree;
import com.sun.source.tree.CompoundAssignmentTree;
import com.sun.source.tree.DoWhileLoopTree;
import com.sun.source.tree.ExpressionTree;
import com.sun.source.tree.ForLoopTree;
import com.sun.source.tree.LambdaExpressionTree;
import com.sun.source.tree.LiteralTree;
import com.sun.source.tree.MemberReferenceTree;
import com.sun.source.tree.MethodInvocationTree;
import com.sun.source.tree.MethodTree;
import com.sun.source.tree.NewClassTree;
import com.sun.source.tree.SynchronizedTree;
import com.sun.source.tree.ThrowTree;
import com.sun.source.tree.Tree;
import com.sun.source.tree.TryTree;
import com.sun.source.tree.VariableTree;
import com.sun.source.tree.WhileLoopTree;
import com.sun.source.util.JavacTask;
import com.sun.source.util.TreePath;
import com.sun.source.util.TreePathScanner;
import com.sun.source.util.Trees;
import java.nio.file.Path;
import java.util.ArrayList;
import java.util.LinkedHashMap;
import java.util.LinkedHashSet;
import java.util.List;
import java.util.Map;
import java.util.Set;
import javax.lang.model.element.Element;
import javax.lang.model.element.ElementKind;
import javax.lang.model.element.ExecutableElement;
import javax.lang.model.element.Modifier;
import javax.lang.model.type.ArrayType;
import javax.lang.model.type.DeclaredType;
import javax.lang.model.type.TypeMirror;
import javax.tools.JavaCompiler;
import javax.tools.StandardJavaFileManager;
import javax.tools.ToolProvider;

/** The text of EarlybirdDesk keeps to what of LANGUAGE.md can be read off the text. */
public final class LanguageTest extends TreePathScanner<Void, Void> {
    private static final String TEXT = "src/main/java/EarlybirdDesk.java";
    private static final Set<String> THROWN = Set.of(
        "IllegalStateException", "IllegalArgumentException", "IndexOutOfBoundsException",
        "ArithmeticException", "UnsupportedOperationException", "NoSuchElementException",
        "RuntimeException");
    private static final Set<String> LIBRARY = Set.of(
        "String.length()", "String.charAt(int)", "String.isEmpty()", "String.equals(Object)",
        "String.indexOf(int)", "String.substring(int)", "String.substring(int,int)",
        "String.toCharArray()", "String.String(char[])",
        "StringBuilder.StringBuilder()", "StringBuilder.append(char)",
        "StringBuilder.append(String)", "StringBuilder.append(int)", "StringBuilder.charAt(int)",
        "StringBuilder.setCharAt(int,char)", "StringBuilder.setLength(int)",
        "StringBuilder.deleteCharAt(int)", "StringBuilder.reverse()", "StringBuilder.length()",
        "StringBuilder.toString()",
        "ArrayList.ArrayList()", "ArrayList.add(E)", "ArrayList.add(int,E)", "ArrayList.get(int)",
        "ArrayList.set(int,E)", "ArrayList.remove(int)", "ArrayList.size()", "ArrayList.isEmpty()",
        "ArrayList.clear()", "List.add(E)", "List.add(int,E)", "List.get(int)", "List.set(int,E)",
        "List.remove(int)", "List.size()", "List.isEmpty()", "List.clear()",
        "Math.max(int,int)", "Math.max(long,long)", "Math.min(int,int)", "Math.min(long,long)",
        "Math.abs(int)", "Math.abs(long)", "Math.floorDiv(int,int)", "Math.floorMod(int,int)",
        "Math.floorDiv(long,long)", "Math.floorMod(long,long)", "Math.floorDiv(long,int)",
        "Math.floorMod(long,int)", "Integer.compare(int,int)", "Long.compare(long,long)",
        "Integer.bitCount(int)", "Long.bitCount(long)",
        "System.arraycopy(Object,int,Object,int,int)",
        "Arrays.fill(int[],int)", "Arrays.fill(long[],long)",
        "Arrays.copyOf(int[],int)", "Arrays.copyOf(long[],int)",
        "Object.Object()");

    private final Check check = new Check();
    private final Trees trees;
    private final CompilationUnitTree unit;
    /** Which own methods each own method or constructor calls. */
    private final Map<ExecutableElement, Set<ExecutableElement>> calls = new LinkedHashMap<>();
    private int classes = 0;

    private LanguageTest(Trees trees, CompilationUnitTree unit) {
        this.trees = trees;
        this.unit = unit;
    }

    public static void main(String[] args) throws Exception {
        JavaCompiler compiler = ToolProvider.getSystemJavaCompiler();
        try (StandardJavaFileManager files = compiler.getStandardFileManager(null, null, null)) {
            JavacTask task = (JavacTask) compiler.getTask(null, files, null,
                    List.of("--release", "17", "-proc:none"), null,
                    files.getJavaFileObjects(Path.of(TEXT)));
            CompilationUnitTree unit = task.parse().iterator().next();
            task.analyze();
            new LanguageTest(Trees.instance(task), unit).all();
        }
    }

    private void all() {
        rule("The program is one file, without a package line", "package", unit.getPackage() == null);
        rule("with one public class", "types", unit.getTypeDecls().size() == 1);
        scan(unit, null);
        rule("11: at most some twelve classes", "classes " + classes, classes <= 12);
        for (ExecutableElement method : calls.keySet()) {
            recursion(method);
            rule("11: calls that are no recursion go at most eight deep", method,
                    depth(method, new ArrayList<>()) <= 8);
        }
        check.end();
    }

    /** A number that goes ahead of the words is the rule's number. */
    private void rule(String words, Object what, boolean holds) {
        check.sentence("LANGUAGE.md", words);
        check.is(String.valueOf(what), holds ? "kept" : "broken", "kept");
    }

    private void never(String words, Tree tree) {
        rule(words, "line " + unit.getLineMap().getLineNumber(startOf(tree)), false);
    }

    // ---- rule 8

    private void recursion(ExecutableElement method) {
        if (calls.get(method).contains(method)) {
            rule("8: a private static method that calls itself", method,
                    method.getModifiers().containsAll(Set.of(Modifier.PRIVATE, Modifier.STATIC)));
        } else if (reachedFrom(method).contains(method)) {
            rule("8: private methods that call one another", method,
                    method.getModifiers().contains(Modifier.PRIVATE));
        }
    }

    private Set<ExecutableElement> reachedFrom(ExecutableElement method) {
        Set<ExecutableElement> reached = new LinkedHashSet<>();
        List<ExecutableElement> waiting = new ArrayList<>(calls.get(method));
        while (!waiting.isEmpty()) {
            ExecutableElement next = waiting.remove(0);
            if (reached.add(next)) {
                waiting.addAll(calls.getOrDefault(next, Set.of()));
            }
        }
        return reached;
    }

    private int depth(ExecutableElement method, List<ExecutableElement> open) {
        int deepest = 0;
        open.add(method);
        for (ExecutableElement next : calls.getOrDefault(method, Set.of())) {
            if (!open.contains(next)) {
                deepest = Math.max(deepest, depth(next, open));
            }
        }
        open.remove(method);
        return deepest + 1;
    }

    // ---- classes, fields and methods

    @Override
    public Void visitClass(ClassTree tree, Void none) {
        classes++;
        rule("2: no local class that captures a variable", tree.getSimpleName(),
                !(getCurrentPath().getParentPath().getLeaf() instanceof BlockTree));
        int fields = 0;
        for (Tree member : tree.getMembers()) {
            if (member instanceof VariableTree field && !isStatic(field)) {
                fields++;
            }
            if (member instanceof BlockTree block && block.isStatic()) {
                never("5: no static initialiser block", block);
            }
        }
        rule("11: a class some twenty fields", tree.getSimpleName() + " " + fields, fields <= 20);
        return super.visitClass(tree, none);
    }

    private static boolean isStatic(VariableTree field) {
        return field.getModifiers().getFlags().contains(Modifier.STATIC);
    }

    @Override
    public Void visitVariable(VariableTree tree, Void none) {
        Element variable = trees.getElement(getCurrentPath());
        TypeMirror type = variable.asType();
        rule("3: types", tree, isAllowed(type)
                || variable.getKind() == ElementKind.EXCEPTION_PARAMETER);
        if (isStatic(tree)) {
            rule("5: static fields are final", tree,
                    variable.getModifiers().contains(Modifier.FINAL));
            rule("5: constants of int, long, boolean, char or String, arrays of numbers", tree,
                    Set.of("int", "long", "boolean", "char", "java.lang.String", "int[]", "long[]",
                            "char[]", "byte[]").contains(type.toString()));
        }
        return super.visitVariable(tree, none);
    }

    private boolean isAllowed(TypeMirror type) {
        if (type instanceof ArrayType array) {
            TypeMirror part = array.getComponentType();
            return part.getKind().isPrimitive() || isOwn(part)
                    || part instanceof ArrayType row && row.getComponentType().getKind().isPrimitive();
        }
        if (type instanceof DeclaredType declared && !declared.getTypeArguments().isEmpty()) {
            TypeMirror part = declared.getTypeArguments().get(0);
            return (isOwn(part) || part.toString().equals("java.lang.Integer"))
                    && Set.of("ArrayList", "List").contains(nameOf(declared));
        }
        return type.getKind().isPrimitive() || isOwn(type)
                || Set.of("java.lang.String", "java.lang.StringBuilder").contains(type.toString());
    }

    private static String nameOf(DeclaredType type) {
        return type.asElement().getSimpleName().toString();
    }

    private static boolean isOwn(TypeMirror type) {
        return type instanceof DeclaredType declared && isOwn(declared.asElement());
    }

    private static boolean isOwn(Element element) {
        Element outer = element;
        while (outer.getEnclosingElement().getKind() != ElementKind.PACKAGE) {
            outer = outer.getEnclosingElement();
        }
        return outer.getSimpleName().contentEquals("EarlybirdDesk");
    }

    @Override
    public Void visitMethod(MethodTree tree, Void none) {
        ExecutableElement method = (ExecutableElement) trees.getElement(getCurrentPath());
        calls.computeIfAbsent(method, m -> new LinkedHashSet<>());
        long lines = lineOf(endOf(tree)) - lineOf(startOf(tree)) + 1;
        rule("11: at most seven parameters", method, tree.getParameters().size() <= 7);
        rule("11: methods stay short (some sixty lines)", method + " " + lines, lines <= 60);
        return super.visitMethod(tree, none);
    }

    private long startOf(Tree tree) {
        return trees.getSourcePositions().getStartPosition(unit, tree);
    }

    private long endOf(Tree tree) {
        return trees.getSourcePositions().getEndPosition(unit, tree);
    }

    private long lineOf(long position) {
        return unit.getLineMap().getLineNumber(Math.max(0, position));
    }

    // ---- calls

    @Override
    public Void visitMethodInvocation(MethodInvocationTree tree, Void none) {
        called((ExecutableElement) trees.getElement(getCurrentPath()));
        return super.visitMethodInvocation(tree, none);
    }

    @Override
    public Void visitNewClass(NewClassTree tree, Void none) {
        called((ExecutableElement) trees.getElement(getCurrentPath()));
        return super.visitNewClass(tree, none);
    }

    private void called(ExecutableElement method) {
        if (isOwn(method)) {
            MethodTree caller = enclosingMethod();
            if (caller != null) {
                Element from = trees.getElement(pathOf(caller));
                calls.computeIfAbsent((ExecutableElement) from, m -> new LinkedHashSet<>())
                        .add(method);
            }
            return;
        }
        String owner = method.getEnclosingElement().getSimpleName().toString();
        boolean isThrown = method.getKind() == ElementKind.CONSTRUCTOR && THROWN.contains(owner);
        rule("4: only what stands here", signature(owner, method),
                isThrown || LIBRARY.contains(signature(owner, method)));
    }

    private static String signature(String owner, ExecutableElement method) {
        List<String> parameters = new ArrayList<>();
        for (Element parameter : method.getParameters()) {
            parameters.add(parameter.asType().toString().replace("java.lang.", ""));
        }
        String name = method.getKind() == ElementKind.CONSTRUCTOR
                ? owner : method.getSimpleName().toString();
        return owner + "." + name + "(" + String.join(",", parameters) + ")";
    }

    private MethodTree enclosingMethod() {
        for (TreePath path = getCurrentPath(); path != null; path = path.getParentPath()) {
            if (path.getLeaf() instanceof MethodTree method) {
                return method;
            }
        }
        return null;
    }

    private TreePath pathOf(Tree tree) {
        return trees.getPath(unit, tree);
    }

    // ---- statements

    @Override
    public Void visitThrow(ThrowTree tree, Void none) {
        boolean isPlain = tree.getExpression() instanceof NewClassTree made
                && THROWN.contains(made.getIdentifier().toString())
                && made.getArguments().size() <= 1
                && made.getArguments().stream().allMatch(LiteralTree.class::isInstance);
        rule("6: throw new E() or throw new E(\"a written text\")", tree, isPlain);
        MethodTree method = enclosingMethod();
        rule("6: no throw in a constructor", tree,
                method != null && !method.getName().contentEquals("<init>"));
        rule("6: never in the very method that holds the throw", tree,
                method != null && !method.toString().contains("try {"));
        return super.visitThrow(tree, none);
    }

    @Override
    public Void visitTry(TryTree tree, Void none) {
        rule("6: no finally", tree, tree.getFinallyBlock() == null);
        rule("6: no try with resources", tree, tree.getResources().isEmpty());
        for (CatchTree each : tree.getCatches()) {
            rule("6: one or more catches of these classes", each,
                    THROWN.contains(each.getParameter().getType().toString()));
        }
        return super.visitTry(tree, none);
    }

    @Override
    public Void visitLambdaExpression(LambdaExpressionTree tree, Void none) {
        never("2: no lambda", tree);
        return super.visitLambdaExpression(tree, none);
    }

    @Override
    public Void visitMemberReference(MemberReferenceTree tree, Void none) {
        never("2: no method reference", tree);
        return super.visitMemberReference(tree, none);
    }

    @Override
    public Void visitSynchronized(SynchronizedTree tree, Void none) {
        never("6: no synchronized", tree);
        return super.visitSynchronized(tree, none);
    }

    @Override
    public Void visitAssert(AssertTree tree, Void none) {
        never("6: no assert", tree);
        return super.visitAssert(tree, none);
    }

    @Override
    public Void visitWhileLoop(WhileLoopTree tree, Void none) {
        loop(tree, tree.getCondition());
        return super.visitWhileLoop(tree, none);
    }

    @Override
    public Void visitDoWhileLoop(DoWhileLoopTree tree, Void none) {
        loop(tree, tree.getCondition());
        return super.visitDoWhileLoop(tree, none);
    }

    @Override
    public Void visitForLoop(ForLoopTree tree, Void none) {
        loop(tree, tree.getCondition());
        return super.visitForLoop(tree, none);
    }

    private void loop(Tree tree, ExpressionTree condition) {
        rule("9: every loop has an end that can be seen from its own lines", tree,
                condition != null && !condition.toString().contains("true"));
    }

    // ---- expressions

    @Override
    public Void visitBinary(BinaryTree tree, Void none) {
        boolean isEquality = tree.getKind() == Tree.Kind.EQUAL_TO
                || tree.getKind() == Tree.Kind.NOT_EQUAL_TO;
        rule("6: == and != never between two Strings or two Integers", tree, !isEquality
                || !isText(tree.getLeftOperand()) && !isText(tree.getRightOperand()));
        rule("10: joining texts by StringBuilder (not by +)", tree,
                tree.getKind() != Tree.Kind.PLUS || !isText(tree));
        return super.visitBinary(tree, none);
    }

    @Override
    public Void visitCompoundAssignment(CompoundAssignmentTree tree, Void none) {
        rule("10: joining texts by StringBuilder (not by +)", tree, !isText(tree.getVariable()));
        return super.visitCompoundAssignment(tree, none);
    }

    private boolean isText(Tree tree) {
        TypeMirror type = trees.getTypeMirror(pathOf(tree));
        return type != null && Set.of("java.lang.String", "java.lang.Integer").contains(type.toString());
    }
}
