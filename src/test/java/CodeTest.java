import com.sun.source.tree.AssertTree;
import com.sun.source.tree.BinaryTree;
import com.sun.source.tree.CatchTree;
import com.sun.source.tree.ClassTree;
import com.sun.source.tree.CompilationUnitTree;
import com.sun.source.tree.CompoundAssignmentTree;
import com.sun.source.tree.DoWhileLoopTree;
import com.sun.source.tree.ExpressionTree;
import com.sun.source.tree.ForLoopTree;
import com.sun.source.tree.LambdaExpressionTree;
import com.sun.source.tree.MemberReferenceTree;
import com.sun.source.tree.MethodInvocationTree;
import com.sun.source.tree.MethodTree;
import com.sun.source.tree.NewArrayTree;
import com.sun.source.tree.NewClassTree;
import com.sun.source.tree.SynchronizedTree;
import com.sun.source.tree.ThrowTree;
import com.sun.source.tree.Tree;
import com.sun.source.tree.TryTree;
import com.sun.source.tree.TypeCastTree;
import com.sun.source.tree.VariableTree;
import com.sun.source.tree.WhileLoopTree;
import com.sun.source.util.JavacTask;
import com.sun.source.util.SourcePositions;
import com.sun.source.util.TreePathScanner;
import com.sun.source.util.Trees;
import java.nio.file.Path;
import java.util.HashMap;
import java.util.HashSet;
import java.util.List;
import java.util.Map;
import java.util.Set;
import java.util.TreeSet;
import javax.lang.model.element.Element;
import javax.lang.model.element.ElementKind;
import javax.lang.model.element.Modifier;
import javax.lang.model.element.NestingKind;
import javax.lang.model.element.TypeElement;
import javax.lang.model.element.VariableElement;
import javax.lang.model.type.TypeMirror;
import javax.tools.JavaCompiler;
import javax.tools.StandardJavaFileManager;
import javax.tools.ToolProvider;

/**
 * The rules of ../shared/LANGUAGE.md that show in the code's tree: 2 (classes), 3 (types), 4 (library),
 * 5 (static fields), 6 (words), 7 (divisors), 8 (recursion), 9 (loops), 11 (sizes), 12 (what is made).
 */
public final class CodeTest extends TreePathScanner<Void, Void> {
    /** All that the class needs of the library; rule 4 allows more, which is to be added here first. */
    private static final Set<String> LIBRARY = Set.of(
        "java.lang.Math.min(int,int)", "java.lang.Math.max(int,int)", "java.lang.Integer.bitCount(int)",
        "java.lang.System.arraycopy(java.lang.Object,int,java.lang.Object,int,int)", "java.lang.Object.Object()");
    /** Divisors that are no constants; each of them was seen to be above 0 where it divides. */
    private static final Set<String> DIVISORS = Set.of("commonDivisor: d", "open: shared", "layOut: town.count");
    private static final int MOST_LINES = 60, MOST_PARAMETERS = 7, MOST_CLASSES = 12, MOST_FIELDS = 20, DEEPEST = 8;
    private static final Check c = new Check();

    private final Trees trees;
    private final CompilationUnitTree unit;
    private final Map<Element, Set<Element>> calls = new HashMap<>();
    private Element within = null;
    private int classes = 0;

    private CodeTest(Trees trees, CompilationUnitTree unit) {
        this.trees = trees;
        this.unit = unit;
    }

    private Element here() {
        return trees.getElement(getCurrentPath());
    }

    private String at(Tree t) {
        long start = trees.getSourcePositions().getStartPosition(unit, t);
        return "line " + unit.getLineMap().getLineNumber(start) + ": " + t.toString().split("\n")[0];
    }

    private void never(int rule, Tree t) {
        c.holds("rule " + rule + ", " + at(t), false);
    }

    @Override public Void visitClass(ClassTree t, Void v) {
        TypeElement e = (TypeElement) here();
        classes++;
        boolean outer = e.getNestingKind() == NestingKind.TOP_LEVEL;
        boolean nested = e.getNestingKind() == NestingKind.MEMBER && e.getModifiers().contains(Modifier.STATIC);
        c.holds("rule 2, no class but a static nested one: " + e, outer || nested);
        int fields = 0;
        for (Element member : e.getEnclosedElements()) {
            boolean fixed = member.getModifiers().contains(Modifier.STATIC);
            boolean field = member.getKind() == ElementKind.FIELD;
            fields += field && !fixed ? 1 : 0;
            c.holds("rule 5, a constant: " + member,
                !field || !fixed || ((VariableElement) member).getConstantValue() != null);
            c.holds("rule 5, no initialiser: " + e,
                member.getKind() != ElementKind.STATIC_INIT && member.getKind() != ElementKind.INSTANCE_INIT);
        }
        c.holds("rule 11, fields of " + e + ": " + fields, fields <= MOST_FIELDS);
        return super.visitClass(t, v);
    }

    @Override public Void visitMethod(MethodTree t, Void v) {
        SourcePositions places = trees.getSourcePositions();
        long first = unit.getLineMap().getLineNumber(places.getStartPosition(unit, t));
        // A constructor that is not written has no end.
        long end = places.getEndPosition(unit, t);
        long lines = end < 0 ? 1 : unit.getLineMap().getLineNumber(end) - first + 1;
        c.holds("rule 11, lines of " + at(t) + lines, lines <= MOST_LINES);
        c.holds("rule 11, parameters of " + at(t), t.getParameters().size() <= MOST_PARAMETERS);
        within = here();
        calls.putIfAbsent(within, new HashSet<>());
        super.visitMethod(t, v);
        within = null;
        return null;
    }

    @Override public Void visitVariable(VariableTree t, Void v) {
        TypeMirror type = trees.getTypeMirror(getCurrentPath());
        String name = type.toString();
        boolean own = name.startsWith("BogTown");
        String item = name.endsWith("[]") ? name.substring(0, name.length() - 2) : name;
        c.holds("rule 3, the type of " + at(t), own || Set.of("int", "long", "boolean").contains(item));
        return super.visitVariable(t, v);
    }

    private void called(Element e, Tree t) {
        if (e == null) {
            c.holds("it is known what is called: " + at(t), false);
            return;
        }
        TypeElement owner = (TypeElement) e.getEnclosingElement();
        String name = owner + "." + (e.getKind() == ElementKind.CONSTRUCTOR ? e.toString().replaceFirst("^.*\\.", "") : e);
        if (!owner.toString().startsWith("BogTown")) {
            c.holds("rule 4, " + name, LIBRARY.contains(name));
        } else if (within != null) {
            calls.computeIfAbsent(within, k -> new HashSet<>()).add(e);
        }
    }

    @Override public Void visitMethodInvocation(MethodInvocationTree t, Void v) {
        called(here(), t);
        return super.visitMethodInvocation(t, v);
    }

    private void made(Tree t) {
        boolean once = within == null || within.getKind() == ElementKind.CONSTRUCTOR;
        c.holds("rule 12, made in a constructor alone: " + at(t), once);
    }

    @Override public Void visitNewClass(NewClassTree t, Void v) {
        c.holds("rule 2, no anonymous class: " + at(t), t.getClassBody() == null);
        made(t);
        called(here(), t);
        return super.visitNewClass(t, v);
    }

    @Override public Void visitNewArray(NewArrayTree t, Void v) {
        made(t);
        c.holds("rule 3, of one dimension: " + at(t), t.getDimensions().size() == 1);
        return super.visitNewArray(t, v);
    }

    private static boolean divides(Tree t) {
        return Set.of(Tree.Kind.DIVIDE, Tree.Kind.REMAINDER, Tree.Kind.DIVIDE_ASSIGNMENT,
            Tree.Kind.REMAINDER_ASSIGNMENT).contains(t.getKind());
    }

    private void divisor(Tree t, ExpressionTree by) {
        if (!divides(t)) return;
        Element e = trees.getElement(new com.sun.source.util.TreePath(getCurrentPath(), by));
        Object fixed = by.getKind() == Tree.Kind.INT_LITERAL ? by.toString()
            : e instanceof VariableElement ? ((VariableElement) e).getConstantValue() : null;
        boolean constant = fixed != null && !fixed.toString().equals("0");
        String place = (within == null ? "" : within.getSimpleName()) + ": " + by;
        c.holds("rule 7, a divisor above 0: " + place, constant || DIVISORS.contains(place));
    }

    @Override public Void visitBinary(BinaryTree t, Void v) {
        divisor(t, t.getRightOperand());
        c.holds("rule 10, no text joined by +: " + at(t),
            !trees.getTypeMirror(getCurrentPath()).toString().equals("java.lang.String"));
        return super.visitBinary(t, v);
    }

    @Override public Void visitCompoundAssignment(CompoundAssignmentTree t, Void v) {
        divisor(t, t.getExpression());
        return super.visitCompoundAssignment(t, v);
    }

    @Override public Void visitTypeCast(TypeCastTree t, Void v) {
        c.holds("rule 6, no cast but of numbers: " + at(t), trees.getTypeMirror(getCurrentPath()).getKind().isPrimitive());
        return super.visitTypeCast(t, v);
    }

    /** An end that can be seen: a comparison stands first in the loop's own line. */
    private void ends(Tree t, ExpressionTree when) {
        c.holds("rule 9, " + at(t), when != null && when.toString().replace("(", "").matches("\\w+( \\+ 1)? (<|<=|>|>=) .*"));
    }

    @Override public Void visitForLoop(ForLoopTree t, Void v) {
        ends(t, t.getCondition());
        c.due("rule 9, a counter goes on: " + at(t), t.getUpdate().size(), 1);
        return super.visitForLoop(t, v);
    }

    @Override public Void visitWhileLoop(WhileLoopTree t, Void v) {
        ends(t, t.getCondition());
        return super.visitWhileLoop(t, v);
    }

    @Override public Void visitDoWhileLoop(DoWhileLoopTree t, Void v) {
        ends(t, t.getCondition());
        return super.visitDoWhileLoop(t, v);
    }

    @Override public Void visitLambdaExpression(LambdaExpressionTree t, Void v) { never(2, t); return null; }
    @Override public Void visitMemberReference(MemberReferenceTree t, Void v) { never(2, t); return null; }
    @Override public Void visitThrow(ThrowTree t, Void v) { never(6, t); return null; }
    @Override public Void visitTry(TryTree t, Void v) { never(6, t); return null; }
    @Override public Void visitCatch(CatchTree t, Void v) { never(6, t); return null; }
    @Override public Void visitSynchronized(SynchronizedTree t, Void v) { never(6, t); return null; }
    @Override public Void visitAssert(AssertTree t, Void v) { never(6, t); return null; }

    /** How many calls stand open at the most from a method on; one that comes to itself is told. */
    private int deep(Element e, Set<Element> open) {
        if (!open.add(e)) {
            c.holds("rule 8, no recursion: " + e, false);
            return DEEPEST;
        }
        int most = 0;
        for (Element next : calls.getOrDefault(e, Set.of())) {
            most = Math.max(most, deep(next, open));
        }
        open.remove(e);
        return most + 1;
    }

    private void callsTogether() {
        Set<String> unused = new TreeSet<>();
        Set<Element> used = new HashSet<>();
        calls.values().forEach(used::addAll);
        for (Element e : calls.keySet()) {
            int depth = deep(e, new HashSet<>());
            c.holds("rule 11, calls open at once from " + e + ": " + depth, depth <= DEEPEST);
            boolean closed = e.getModifiers().contains(Modifier.PRIVATE) && e.getKind() == ElementKind.METHOD;
            if (closed && !used.contains(e)) unused.add(e.toString());
        }
        c.holds("no method that nothing calls: " + unused, unused.isEmpty());
        c.holds("rule 11, classes: " + classes, classes <= MOST_CLASSES);
    }

    public static void main(String[] args) throws Exception {
        JavaCompiler compiler = ToolProvider.getSystemJavaCompiler();
        try (StandardJavaFileManager files = compiler.getStandardFileManager(null, null, null)) {
            JavacTask task = (JavacTask) compiler.getTask(null, files, null, List.of("-proc:none"), null,
                files.getJavaFileObjects(Path.of("src/main/java/BogTown.java")));
            CompilationUnitTree unit = task.parse().iterator().next();
            task.analyze();
            c.due("a single class stands in the file", unit.getTypeDecls().size(), 1);
            CodeTest test = new CodeTest(Trees.instance(task), unit);
            test.scan(unit, null);
            test.callsTogether();
        }
        c.end();
    }
}
