import com.sun.source.tree.AssertTree;
import com.sun.source.tree.BinaryTree;
import com.sun.source.tree.ClassTree;
import com.sun.source.tree.CompilationUnitTree;
import com.sun.source.tree.DoWhileLoopTree;
import com.sun.source.tree.ExpressionTree;
import com.sun.source.tree.ForLoopTree;
import com.sun.source.tree.ImportTree;
import com.sun.source.tree.LambdaExpressionTree;
import com.sun.source.tree.LiteralTree;
import com.sun.source.tree.MemberReferenceTree;
import com.sun.source.tree.MethodInvocationTree;
import com.sun.source.tree.MethodTree;
import com.sun.source.tree.NewClassTree;
import com.sun.source.tree.SynchronizedTree;
import com.sun.source.tree.ThrowTree;
import com.sun.source.tree.Tree;
import com.sun.source.tree.TryTree;
import com.sun.source.tree.TypeCastTree;
import com.sun.source.tree.VariableTree;
import com.sun.source.tree.WhileLoopTree;
import com.sun.source.util.JavacTask;
import com.sun.source.util.TreePathScanner;
import com.sun.source.util.Trees;
import java.io.File;
import java.io.IOException;
import java.util.HashMap;
import java.util.LinkedHashSet;
import java.util.List;
import java.util.Map;
import java.util.Set;
import javax.lang.model.element.Element;
import javax.lang.model.element.Modifier;
import javax.lang.model.type.TypeMirror;
import javax.tools.JavaCompiler;
import javax.tools.StandardJavaFileManager;
import javax.tools.ToolProvider;

/**
 * Holds the class to what LANGUAGE.md's rules say of its text, as far as a program can see it, and
 * more narrowly where the class needs less than they leave. FaceTest holds rule 1.
 */
public final class LanguageTest extends TreePathScanner<Void, Void> {
    private static final File SOURCE = new File("src/main/java/InvoiceSmith.java");
    private static final Set<String> EXCEPTIONS = Set.of("IllegalStateException", "IllegalArgumentException",
            "IndexOutOfBoundsException", "ArithmeticException", "UnsupportedOperationException",
            "NoSuchElementException", "RuntimeException");
    private static final Set<String> CALLED = Set.of("java.lang.String.indexOf");
    private static final Set<String> TYPES = Set.of("int", "long", "char", "boolean", "java.lang.String");
    private static final int MOST_PARAMETERS = 7;
    private static final int MOST_LINES = 60;
    private static final int MOST_CLASSES = 12;
    private static final int MOST_FIELDS = 20;
    private static final int DEEPEST = 8;

    private final Trees trees;
    private final CompilationUnitTree unit;
    private final Map<String, Set<String>> calls = new HashMap<>();
    private final Map<String, Integer> fields = new HashMap<>();
    private int classes;
    private String method = "";
    private boolean inConstructor;

    private LanguageTest(Trees trees, CompilationUnitTree unit) {
        this.trees = trees;
        this.unit = unit;
    }

    public static void main(String[] args) throws IOException {
        JavaCompiler compiler = ToolProvider.getSystemJavaCompiler();
        try (StandardJavaFileManager files = compiler.getStandardFileManager(null, null, null)) {
            JavacTask task = (JavacTask) compiler.getTask(null, files, null, List.of("-proc:none"), null,
                    files.getJavaFileObjects(SOURCE));
            CompilationUnitTree unit = task.parse().iterator().next();
            task.analyze();
            LanguageTest test = new LanguageTest(Trees.instance(task), unit);
            test.scan(unit, null);
            test.checkCounts();
        }
        Checks.end("LanguageTest");
    }

    private void holds(String rule, Tree tree, boolean held) {
        long line = unit.getLineMap().getLineNumber(trees.getSourcePositions().getStartPosition(unit, tree));
        Checks.is("rule " + rule + ", line " + line, held ? 1 : 0, 1);
    }

    private Element element() {
        return trees.getElement(getCurrentPath());
    }

    private static boolean isOwn(String type) {
        return type.equals("InvoiceSmith") || type.startsWith("InvoiceSmith.");
    }

    // ---- rules 2 and 4: no import, no lambda, no method reference, and the library that is left

    @Override
    public Void visitImport(ImportTree tree, Void none) {
        holds("4: no import", tree, false);
        return super.visitImport(tree, none);
    }

    @Override
    public Void visitLambdaExpression(LambdaExpressionTree tree, Void none) {
        holds("2: no lambda", tree, false);
        return super.visitLambdaExpression(tree, none);
    }

    @Override
    public Void visitMemberReference(MemberReferenceTree tree, Void none) {
        holds("2: no method reference", tree, false);
        return super.visitMemberReference(tree, none);
    }

    @Override
    public Void visitMethodInvocation(MethodInvocationTree tree, Void none) {
        Element called = element();
        String owner = called.getEnclosingElement().toString();
        String name = owner + "." + called.getSimpleName();
        boolean constructor = called.getSimpleName().contentEquals("<init>");
        holds("4: calls " + name, tree, isOwn(owner) || CALLED.contains(name) || constructor);
        if (!constructor) {
            calls.computeIfAbsent(method, key -> new LinkedHashSet<>()).add(name);
        }
        return super.visitMethodInvocation(tree, none);
    }

    @Override
    public Void visitNewClass(NewClassTree tree, Void none) {
        String made = tree.getIdentifier().toString();
        boolean own = isOwn(element().getEnclosingElement().toString());
        holds("4: makes " + made, tree, own || EXCEPTIONS.contains(made));
        holds("2: no class without a name", tree, tree.getClassBody() == null);
        return super.visitNewClass(tree, none);
    }

    // ---- rules 3 and 5: types, static fields

    @Override
    public Void visitVariable(VariableTree tree, Void none) {
        TypeMirror type = trees.getTypeMirror(getCurrentPath());
        String plain = type.toString().replaceFirst("\\[\\]$", "");
        holds("3: type " + type, tree, TYPES.contains(plain) || isOwn(plain));
        boolean isField = getCurrentPath().getParentPath().getLeaf() instanceof ClassTree;
        boolean isStatic = tree.getModifiers().getFlags().contains(Modifier.STATIC);
        if (isStatic) {
            holds("5: static and final", tree, tree.getModifiers().getFlags().contains(Modifier.FINAL));
            holds("5: a plain constant", tree, TYPES.contains(type.toString()));
        } else if (isField) {
            fields.merge(element().getEnclosingElement().toString(), 1, Integer::sum);
        }
        return super.visitVariable(tree, none);
    }

    @Override
    public Void visitTypeCast(TypeCastTree tree, Void none) {
        holds("6: no cast of objects", tree, TYPES.contains(tree.getType().toString()));
        return super.visitTypeCast(tree, none);
    }

    @Override
    public Void visitLiteral(LiteralTree tree, Void none) {
        if (tree.getValue() instanceof String text) {
            holds("4: signs 1 to 127", tree, text.chars().allMatch(sign -> sign >= 1 && sign <= 127));
        }
        return super.visitLiteral(tree, none);
    }

    // ---- rule 6: exceptions

    @Override
    public Void visitThrow(ThrowTree tree, Void none) {
        holds("6: no throw in a constructor", tree, !inConstructor);
        boolean plain = tree.getExpression() instanceof NewClassTree made
                && EXCEPTIONS.contains(made.getIdentifier().toString())
                && made.getArguments().stream().allMatch(text -> text.getKind() == Tree.Kind.STRING_LITERAL);
        holds("6: throw new E(\"a written text\")", tree, plain);
        return super.visitThrow(tree, none);
    }

    @Override
    public Void visitTry(TryTree tree, Void none) {
        holds("6: the class needs no try", tree, false);
        return super.visitTry(tree, none);
    }

    @Override
    public Void visitSynchronized(SynchronizedTree tree, Void none) {
        holds("6: no synchronized", tree, false);
        return super.visitSynchronized(tree, none);
    }

    @Override
    public Void visitAssert(AssertTree tree, Void none) {
        holds("6: no assert", tree, false);
        return super.visitAssert(tree, none);
    }

    // ---- rules 7, 9 and 10: divisors, loops, texts

    @Override
    public Void visitBinary(BinaryTree tree, Void none) {
        boolean divides = tree.getKind() == Tree.Kind.DIVIDE || tree.getKind() == Tree.Kind.REMAINDER;
        if (divides) {
            boolean written = tree.getRightOperand() instanceof LiteralTree literal
                    && literal.getValue() instanceof Integer number && number != 0;
            holds("7: divides by a number as written", tree, written);
        }
        if (tree.getKind() == Tree.Kind.PLUS) {
            holds("10: no texts joined by +", tree, !trees.getTypeMirror(getCurrentPath()).toString().endsWith("String"));
        }
        return super.visitBinary(tree, none);
    }

    @Override
    public Void visitForLoop(ForLoopTree tree, Void none) {
        hasAnEnd(tree, tree.getCondition());
        return super.visitForLoop(tree, none);
    }

    @Override
    public Void visitWhileLoop(WhileLoopTree tree, Void none) {
        hasAnEnd(tree, tree.getCondition());
        return super.visitWhileLoop(tree, none);
    }

    @Override
    public Void visitDoWhileLoop(DoWhileLoopTree tree, Void none) {
        hasAnEnd(tree, tree.getCondition());
        return super.visitDoWhileLoop(tree, none);
    }

    /** A counter goes up to something, or down to 0. */
    private void hasAnEnd(Tree loop, ExpressionTree condition) {
        String text = String.valueOf(condition);
        holds("9: an end that can be seen", loop, text.contains(" < ") || text.contains(" >= 0"));
    }

    // ---- rules 2, 8, 11 and 12: classes, methods, how deep calls go

    @Override
    public Void visitClass(ClassTree tree, Void none) {
        classes++;
        boolean whole = classes == 1;
        holds("2: inside, private and static", tree, whole || tree.getModifiers().getFlags()
                .containsAll(Set.of(Modifier.PRIVATE, Modifier.STATIC, Modifier.FINAL)));
        return super.visitClass(tree, none);
    }

    @Override
    public Void visitMethod(MethodTree tree, Void none) {
        long begin = trees.getSourcePositions().getStartPosition(unit, tree);
        long end = trees.getSourcePositions().getEndPosition(unit, tree);
        long lines = 1 + unit.getLineMap().getLineNumber(end) - unit.getLineMap().getLineNumber(begin);
        holds("11: " + lines + " lines", tree, lines <= MOST_LINES);
        holds("11: parameters", tree, tree.getParameters().size() <= MOST_PARAMETERS);
        inConstructor = tree.getReturnType() == null;
        method = element().getEnclosingElement() + "." + tree.getName();
        super.visitMethod(tree, none);
        inConstructor = false;
        method = "";
        return null;
    }

    private void checkCounts() {
        Checks.is("rule 11: no more than 12 classes, but " + classes, classes <= MOST_CLASSES ? 1 : 0, 1);
        fields.forEach((owner, count) ->
                Checks.is("rule 11: fields of " + owner + ", " + count, count <= MOST_FIELDS ? 1 : 0, 1));
        for (String from : calls.keySet()) {
            int depth = deepest(from, new LinkedHashSet<>());
            Checks.is("rule 11: calls from " + from + " go " + depth + " deep", depth <= DEEPEST ? 1 : 0, 1);
        }
        Checks.is("rule 8: what calls itself again", String.join(" ", recursive()),
                "readChoice readLoop readParts");
    }

    /** The most methods that stand open at once, each once. */
    private int deepest(String from, Set<String> open) {
        if (!open.add(from)) {
            return 0;
        }
        int most = 0;
        for (String to : calls.getOrDefault(from, Set.of())) {
            most = Math.max(most, deepest(to, open));
        }
        open.remove(from);
        return most + 1;
    }

    private List<String> recursive() {
        return calls.keySet().stream().filter(from -> reaches(from, from, new LinkedHashSet<>()))
                .map(name -> name.substring(name.lastIndexOf('.') + 1)).sorted().toList();
    }

    private boolean reaches(String from, String goal, Set<String> seen) {
        for (String to : calls.getOrDefault(from, Set.of())) {
            if (to.equals(goal) || seen.add(to) && reaches(to, goal, seen)) {
                return true;
            }
        }
        return false;
    }
}
