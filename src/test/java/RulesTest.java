import com.sun.source.tree.AssertTree;
import com.sun.source.tree.BinaryTree;
import com.sun.source.tree.ClassTree;
import com.sun.source.tree.CompilationUnitTree;
import com.sun.source.tree.CompoundAssignmentTree;
import com.sun.source.tree.ImportTree;
import com.sun.source.tree.LambdaExpressionTree;
import com.sun.source.tree.MemberReferenceTree;
import com.sun.source.tree.MethodInvocationTree;
import com.sun.source.tree.MethodTree;
import com.sun.source.tree.NewArrayTree;
import com.sun.source.tree.NewClassTree;
import com.sun.source.tree.SynchronizedTree;
import com.sun.source.tree.ThrowTree;
import com.sun.source.tree.Tree;
import com.sun.source.tree.TryTree;
import com.sun.source.tree.TypeCastTree;
import com.sun.source.tree.VariableTree;
import com.sun.source.util.JavacTask;
import com.sun.source.util.TreePath;
import com.sun.source.util.TreePathScanner;
import com.sun.source.util.Trees;
import java.io.IOException;
import java.nio.file.Path;
import java.util.ArrayDeque;
import java.util.Deque;
import java.util.HashMap;
import java.util.LinkedHashSet;
import java.util.List;
import java.util.Map;
import java.util.Set;
import java.util.TreeSet;
import javax.lang.model.element.Element;
import javax.lang.model.element.ElementKind;
import javax.lang.model.element.Modifier;
import javax.lang.model.element.TypeElement;
import javax.lang.model.type.TypeMirror;
import javax.tools.JavaCompiler;
import javax.tools.StandardJavaFileManager;
import javax.tools.ToolProvider;

/** What of ../shared/LANGUAGE.md the compiler's own tree of the class shows; each finding names its rule. */
public final class RulesTest {
    // Rule 4's list, as far as the class could need it; Math, Integer and Long stand for their
    // functions over int and long.
    private static final Set<String> LIBRARY = Set.of(
        "String.length", "String.charAt", "String.isEmpty", "String.equals", "String.indexOf", "String.substring",
        "String.toCharArray", "System.arraycopy", "Object.<init>", "Math.max", "Math.min", "Math.abs", "Math.floorDiv",
        "Math.floorMod", "Integer.bitCount", "Integer.compare", "Long.compare");
    private static final Set<String> CONSTANTS = Set.of("int", "long", "boolean", "char", "java.lang.String");
    private static final int DEEPEST = 8;

    private static int wrong = 0;

    private static void check(boolean holds, String what) {
        if (!holds) {
            wrong++;
            System.out.println(what);
        }
    }

    /** Goes through the tree once: finds what may not stand there, and notes who calls whom. */
    private static final class Finder extends TreePathScanner<Void, Void> {
        final Map<Element, Set<Element>> calls = new HashMap<>();
        private final Trees trees;
        private final Deque<Element> methods = new ArrayDeque<>();
        private CompilationUnitTree unit;

        Finder(Trees trees) {
            this.trees = trees;
        }

        private void never(String rule, Tree t) {
            long line = unit.getLineMap().getLineNumber(trees.getSourcePositions().getStartPosition(unit, t));
            check(false, "rule " + rule + ", line " + line + ": " + t);
        }

        private void never(boolean stands, String rule, Tree t) {
            if (stands) {
                never(rule, t);
            }
        }

        private String typeOf(Tree t) {
            TypeMirror m = trees.getTypeMirror(new TreePath(getCurrentPath(), t));
            return m == null ? "" : m.toString();
        }

        @Override public Void visitCompilationUnit(CompilationUnitTree t, Void v) {
            unit = t;
            never(t.getPackage() != null, "1, a package", t);
            return super.visitCompilationUnit(t, v);
        }

        @Override public Void visitImport(ImportTree t, Void v) {
            never("4, an import", t);
            return null;
        }

        @Override public Void visitClass(ClassTree t, Void v) {
            boolean outer = getCurrentPath().getParentPath().getLeaf() == unit;
            boolean inside = getCurrentPath().getParentPath().getLeaf() instanceof ClassTree;
            never(!outer && !inside, "2, a local or anonymous class", t);
            never(inside && !t.getModifiers().getFlags().contains(Modifier.STATIC), "2, an inner class", t);
            return super.visitClass(t, v);
        }

        @Override public Void visitMethod(MethodTree t, Void v) {
            Element e = trees.getElement(getCurrentPath());
            calls.computeIfAbsent(e, k -> Set.of());
            methods.push(e);
            super.visitMethod(t, v);
            methods.pop();
            return null;
        }

        @Override public Void visitVariable(VariableTree t, Void v) {
            Element e = trees.getElement(getCurrentPath());
            boolean still = e.getKind() == ElementKind.FIELD && e.getModifiers().contains(Modifier.STATIC);
            never(still && !e.getModifiers().contains(Modifier.FINAL), "5, static and not final", t);
            never(still && !CONSTANTS.contains(e.asType().toString()), "5, a static field's type", t);
            String type = e.asType().toString();
            never(type.equals("double") || type.equals("float"), "3, doubles are not needed here", t);
            return super.visitVariable(t, v);
        }

        @Override public Void visitMethodInvocation(MethodInvocationTree t, Void v) {
            Element called = trees.getElement(new TreePath(getCurrentPath(), t.getMethodSelect()));
            noteCall(called, t);
            return super.visitMethodInvocation(t, v);
        }

        private void noteCall(Element called, Tree t) {
            String owner = ((TypeElement) called.getEnclosingElement()).getQualifiedName().toString();
            if (!owner.equals("HailVotes") && !owner.startsWith("HailVotes.")) {
                String name = called.getEnclosingElement().getSimpleName() + "." + called.getSimpleName();
                never(!owner.startsWith("java.lang.") || !LIBRARY.contains(name), "4, the library", t);
            } else if (!methods.isEmpty()) {
                Set<Element> all = new LinkedHashSet<>(calls.get(methods.peek()));
                all.add(called);
                calls.put(methods.peek(), all);
            }
        }

        // The room of a run is small: what an object needs is made with it, and never by a call.
        @Override public Void visitNewClass(NewClassTree t, Void v) {
            never(!methods.isEmpty() && methods.peek().getKind() != ElementKind.CONSTRUCTOR, "12, a call makes an object", t);
            noteCall(trees.getElement(getCurrentPath()), t);
            return super.visitNewClass(t, v);
        }

        @Override public Void visitNewArray(NewArrayTree t, Void v) {
            never(!methods.isEmpty() && methods.peek().getKind() != ElementKind.CONSTRUCTOR, "12, a call makes a row", t);
            return super.visitNewArray(t, v);
        }

        @Override public Void visitBinary(BinaryTree t, Void v) {
            boolean text = typeOf(t.getLeftOperand()).endsWith("String") || typeOf(t.getRightOperand()).endsWith("String");
            never(text && t.getKind() == Tree.Kind.PLUS, "10, texts joined by +", t);
            never(text && (t.getKind() == Tree.Kind.EQUAL_TO || t.getKind() == Tree.Kind.NOT_EQUAL_TO), "6, texts held by ==", t);
            return super.visitBinary(t, v);
        }

        @Override public Void visitCompoundAssignment(CompoundAssignmentTree t, Void v) {
            never(typeOf(t.getVariable()).endsWith("String"), "10, texts joined by +=", t);
            return super.visitCompoundAssignment(t, v);
        }

        @Override public Void visitTypeCast(TypeCastTree t, Void v) {
            never(!trees.getTypeMirror(getCurrentPath()).getKind().isPrimitive(), "6, a cast of an object", t);
            return super.visitTypeCast(t, v);
        }

        @Override public Void visitTry(TryTree t, Void v) {
            never("6", t);
            return null;
        }

        @Override public Void visitThrow(ThrowTree t, Void v) {
            never("6", t);
            return null;
        }

        @Override public Void visitAssert(AssertTree t, Void v) {
            never("6", t);
            return null;
        }

        @Override public Void visitSynchronized(SynchronizedTree t, Void v) {
            never("6", t);
            return null;
        }

        @Override public Void visitLambdaExpression(LambdaExpressionTree t, Void v) {
            never("2", t);
            return null;
        }

        @Override public Void visitMemberReference(MemberReferenceTree t, Void v) {
            never("2", t);
            return null;
        }
    }

    /** How many calls stand open at once at the most from this one on; a call within itself is told. */
    private static int depth(Element method, Map<Element, Set<Element>> calls, Deque<Element> open) {
        if (open.contains(method)) {
            check(false, "rule 8: " + method + " calls itself by " + open);
            return 0;
        }
        open.push(method);
        int deepest = 0;
        for (Element called : calls.getOrDefault(method, Set.of())) {
            deepest = Math.max(deepest, depth(called, calls, open));
        }
        open.pop();
        return deepest + 1;
    }

    private static boolean isOfTheFace(Element method) {
        return method.getEnclosingElement().getSimpleName().contentEquals("HailVotes")
            && method.getModifiers().contains(Modifier.PUBLIC);
    }

    private static void noneIsLeftOver(Map<Element, Set<Element>> calls) {
        Set<String> used = new TreeSet<>();
        for (Set<Element> called : calls.values()) {
            for (Element e : called) {
                used.add(e.getEnclosingElement() + "." + e);
            }
        }
        for (Element e : calls.keySet()) {
            boolean made = e.getKind() == ElementKind.CONSTRUCTOR;
            check(made || isOfTheFace(e) || used.contains(e.getEnclosingElement() + "." + e), "nobody calls " + e);
        }
    }

    public static void main(String[] args) throws IOException {
        JavaCompiler compiler = ToolProvider.getSystemJavaCompiler();
        try (StandardJavaFileManager files = compiler.getStandardFileManager(null, null, null)) {
            JavacTask task = (JavacTask) compiler.getTask(null, files, null, List.of("-proc:none"), null,
                files.getJavaFileObjects(Path.of("src/main/java/HailVotes.java")));
            Iterable<? extends CompilationUnitTree> units = task.parse();
            task.analyze();
            Finder finder = new Finder(Trees.instance(task));
            finder.scan(units, null);
            check(finder.calls.size() > 30, "the tree has no methods");
            for (Element method : finder.calls.keySet()) {
                int deep = depth(method, finder.calls, new ArrayDeque<>());
                check(deep <= DEEPEST, "rule 11: " + method + " goes " + deep + " deep");
            }
            noneIsLeftOver(finder.calls);
        }
        System.out.println(wrong == 0 ? "RulesTest: all as told" : "RulesTest: " + wrong + " wrong");
        if (wrong != 0) {
            System.exit(1);
        }
    }
}
