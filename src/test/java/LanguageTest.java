import com.sun.source.tree.AssertTree;
import com.sun.source.tree.BinaryTree;
import com.sun.source.tree.CatchTree;
import com.sun.source.tree.ClassTree;
import com.sun.source.tree.CompilationUnitTree;
import com.sun.source.tree.DoWhileLoopTree;
import com.sun.source.tree.ExpressionTree;
import com.sun.source.tree.ForLoopTree;
import com.sun.source.tree.ImportTree;
import com.sun.source.tree.LambdaExpressionTree;
import com.sun.source.tree.MemberReferenceTree;
import com.sun.source.tree.MethodInvocationTree;
import com.sun.source.tree.MethodTree;
import com.sun.source.tree.NewClassTree;
import com.sun.source.tree.SynchronizedTree;
import com.sun.source.tree.ThrowTree;
import com.sun.source.tree.Tree;
import com.sun.source.tree.TryTree;
import com.sun.source.tree.VariableTree;
import com.sun.source.tree.WhileLoopTree;
import com.sun.source.util.JavacTask;
import com.sun.source.util.TreePath;
import com.sun.source.util.TreePathScanner;
import com.sun.source.util.Trees;
import java.io.IOException;
import java.net.URI;
import java.nio.file.Files;
import java.nio.file.Path;
import java.util.ArrayDeque;
import java.util.ArrayList;
import java.util.Deque;
import java.util.LinkedHashMap;
import java.util.LinkedHashSet;
import java.util.List;
import java.util.Map;
import java.util.Set;
import javax.lang.model.element.Element;
import javax.lang.model.element.Modifier;
import javax.lang.model.element.TypeElement;
import javax.tools.Diagnostic;
import javax.tools.JavaFileObject;
import javax.tools.SimpleJavaFileObject;
import javax.tools.ToolProvider;

/**
 * Those rules of LANGUAGE.md that show only in the source's own structure: which of the library is called, how deep
 * calls go, how long methods are, that loops have a condition. Each check is held against a source that breaks it, too.
 */
public final class LanguageTest {
    private static final int MOST_LINES = 60;
    private static final int MOST_PARAMETERS = 7;
    private static final int MOST_CLASSES = 12;
    private static final int MOST_FIELDS = 20;
    private static final int DEEPEST = 8;

    /** What the class uses of rule 4; a name more is looked up in the rule before it is put here. */
    private static final Set<String> LIBRARY = Set.of(
            "java.lang.Object.<init>", "java.lang.System.arraycopy", "java.lang.Integer.bitCount",
            "java.lang.Math.abs", "java.lang.Math.max", "java.lang.Math.min",
            "java.lang.String.length", "java.lang.String.charAt", "java.lang.String.indexOf");

    private static int wrong = 0;

    public static void main(String[] args) throws IOException {
        for (String one : new Source(Files.readString(Path.of("src/main/java/KnockerFaces.java"))).complaints()) {
            complain("KnockerFaces.java: " + one);
        }
        brokenRulesAreSeen();
        System.out.println(wrong == 0 ? "the source keeps to the rules" : wrong + " things are not as due");
        if (wrong != 0) {
            System.exit(1);
        }
    }

    private static void complain(String what) {
        wrong++;
        System.out.println(what);
    }

    // ---- what would be seen

    private static void brokenRulesAreSeen() {
        seen("nothing", "int a(int b) { return Math.abs(b); }");
        seen("throws", "void a() { throw new IllegalStateException(); }");
        seen("catches", "int a() { try { return 1; } catch (RuntimeException e) { return 2; } }");
        seen("tries", "int a() { try { return 1; } finally { b(); } } void b() { }");
        seen("asserts", "void a(int b) { assert b > 0; }");
        seen("locks", "void a() { synchronized (this) { } }");
        seen("has a lambda", "Runnable a() { return () -> { }; }");
        seen("refers to a method", "Runnable a() { return KnockerFaces::b; } static void b() { }");
        seen("has a class without a name", "Object a() { return new Object() { }; }");
        seen("imports", "int a() { return 0; }", "import java.util.List; ");
        seen("calls java.lang.Math.addExact", "int a(int b) { return Math.addExact(b, 1); }");
        seen("calls java.lang.Thread.<init>", "void a() { new Thread(); }");
        seen("joins texts by +", "String a(int b) { return \"b\" + b; }");
        seen("loops without a condition", "void a() { for (;;) { } }");
        seen("loops without a condition", "void a() { while (true) { } }");
        seen("loops without a condition", "void a() { do { } while (true); }");
        seen("is longer than 60 lines", "void a() {" + "\n".repeat(60) + "}");
        seen("nothing", "void a() {" + "\n".repeat(59) + "}");
        seen("has more than 7 parameters", "void a(int b, int c, int d, int e, int f, int g, int h, int i) { }");
        seen("has more than 20 fields", numbered("int a#; ", 21));
        seen("nothing", numbered("int a#; ", 20) + numbered("static final int B# = #; ", 9));
        seen("does not compile", "int a() { return b; }");
        seen("more than 12 classes", numbered("static class A# { } ", 12));
        seen("nothing", numbered("static class A# { } ", 11));
        seen("calls go 9 deep", numbered("void a#() { a+(); } ", 8) + "void a8() { }");
        seen("nothing", numbered("void a#() { a+(); } ", 7) + "void a7() { }");
        seen("nothing", "void a(int n) { b(n); } void b(int n) { if (n > 0) { a(n - 1); } }");
    }

    private static String numbered(String text, int count) {
        StringBuilder all = new StringBuilder();
        for (int i = 0; i < count; i++) {
            all.append(text.replace("#", "" + i).replace("+", "" + (i + 1)));
        }
        return all.toString();
    }

    private static void seen(String rule, String members) {
        seen(rule, members, "");
    }

    private static void seen(String rule, String members, String head) {
        List<String> found = new Source(head + "public final class KnockerFaces { " + members + " }").complaints();
        boolean good = rule.equals("nothing") ? found.isEmpty() : found.stream().anyMatch(one -> one.contains(rule));
        if (!good) {
            complain("of \"" + members.replace("\n", " ") + "\" is seen " + found + ", due is " + rule);
        }
    }

    // ---- looking through a source

    private static final class Source extends TreePathScanner<Void, Void> {
        private final List<String> complaints = new ArrayList<>();
        private final Map<String, Set<String>> callsOf = new LinkedHashMap<>();
        private final Deque<String> inside = new ArrayDeque<>();
        private final Trees trees;
        private final CompilationUnitTree unit;
        private int classes = 0;

        Source(String text) {
            JavaFileObject file = new SimpleJavaFileObject(URI.create("string:///KnockerFaces.java"), JavaFileObject.Kind.SOURCE) {
                @Override
                public CharSequence getCharContent(boolean ignore) {
                    return text;
                }
            };
            JavacTask task = (JavacTask) ToolProvider.getSystemJavaCompiler().getTask(null, null, this::noteError,
                    List.of("-proc:none"), null, List.of(file));
            try {
                unit = task.parse().iterator().next();
                task.analyze();
            } catch (IOException e) {
                throw new IllegalStateException("the source can't be read", e);
            }
            trees = Trees.instance(task);
        }

        List<String> complaints() {
            scan(new TreePath(unit), null);
            complainIf(classes > MOST_CLASSES, "there are more than " + MOST_CLASSES + " classes");
            int deepest = 0;
            for (String method : callsOf.keySet()) {
                deepest = Math.max(deepest, depth(method, new LinkedHashSet<>()));
            }
            complainIf(deepest > DEEPEST, "calls go " + deepest + " deep");
            return complaints;
        }

        private void noteError(Diagnostic<? extends JavaFileObject> one) {
            complainIf(one.getKind() == Diagnostic.Kind.ERROR, "does not compile: " + one.getMessage(null));
        }

        private void complainIf(boolean bad, String what) {
            if (bad) {
                complaints.add(inside.isEmpty() ? what : inside.peek() + " " + what);
            }
        }

        /** The longest way down from a method; one that stands open already is recursion and not gone into. */
        private int depth(String method, Set<String> open) {
            int deepest = 0;
            open.add(method);
            for (String next : callsOf.getOrDefault(method, Set.of())) {
                deepest = open.contains(next) ? deepest : Math.max(deepest, depth(next, open));
            }
            open.remove(method);
            return deepest + 1;
        }

        private static String nameOf(Element method) {
            return ((TypeElement) method.getEnclosingElement()).getQualifiedName() + "." + method.getSimpleName();
        }

        /** Methods of one name in one class are told apart by their parameters. */
        private static String keyOf(Element method) {
            return method.getEnclosingElement() + "." + method;
        }

        private void noteCall(Element called) {
            if (called == null) {
                return;
            }
            String name = nameOf(called);
            if (!name.startsWith("KnockerFaces.")) {
                complainIf(!LIBRARY.contains(name), "calls " + name);
            } else if (!inside.isEmpty()) {
                callsOf.get(inside.peek()).add(keyOf(called));
            }
        }

        private long lineOf(long position) {
            return unit.getLineMap().getLineNumber(position);
        }

        @Override
        public Void visitClass(ClassTree tree, Void none) {
            classes++;
            int fields = 0;
            for (Tree member : tree.getMembers()) {
                boolean field = member instanceof VariableTree;
                fields += field && !((VariableTree) member).getModifiers().getFlags().contains(Modifier.STATIC) ? 1 : 0;
            }
            complainIf(fields > MOST_FIELDS, tree.getSimpleName() + " has more than " + MOST_FIELDS + " fields");
            return super.visitClass(tree, none);
        }

        @Override
        public Void visitMethod(MethodTree tree, Void none) {
            inside.push(keyOf(trees.getElement(getCurrentPath())));
            callsOf.put(inside.peek(), new LinkedHashSet<>());
            long start = trees.getSourcePositions().getStartPosition(unit, tree);
            long end = trees.getSourcePositions().getEndPosition(unit, tree);
            boolean written = end >= 0;
            complainIf(written && lineOf(end) - lineOf(start) + 1 > MOST_LINES, "is longer than " + MOST_LINES + " lines");
            complainIf(tree.getParameters().size() > MOST_PARAMETERS, "has more than " + MOST_PARAMETERS + " parameters");
            super.visitMethod(tree, none);
            inside.pop();
            return null;
        }

        @Override
        public Void visitMethodInvocation(MethodInvocationTree tree, Void none) {
            noteCall(trees.getElement(getCurrentPath()));
            return super.visitMethodInvocation(tree, none);
        }

        @Override
        public Void visitNewClass(NewClassTree tree, Void none) {
            complainIf(tree.getClassBody() != null, "has a class without a name");
            noteCall(trees.getElement(getCurrentPath()));
            return super.visitNewClass(tree, none);
        }

        @Override
        public Void visitBinary(BinaryTree tree, Void none) {
            boolean text = trees.getTypeMirror(getCurrentPath()).toString().equals("java.lang.String");
            complainIf(text && tree.getKind() == Tree.Kind.PLUS, "joins texts by +");
            return super.visitBinary(tree, none);
        }

        private void lookAtLoop(ExpressionTree condition) {
            String words = condition == null ? "true" : condition.toString().replace("(", "").replace(")", "");
            complainIf(words.equals("true"), "loops without a condition");
        }

        @Override
        public Void visitForLoop(ForLoopTree tree, Void none) {
            lookAtLoop(tree.getCondition());
            return super.visitForLoop(tree, none);
        }

        @Override
        public Void visitWhileLoop(WhileLoopTree tree, Void none) {
            lookAtLoop(tree.getCondition());
            return super.visitWhileLoop(tree, none);
        }

        @Override
        public Void visitDoWhileLoop(DoWhileLoopTree tree, Void none) {
            lookAtLoop(tree.getCondition());
            return super.visitDoWhileLoop(tree, none);
        }

        @Override
        public Void visitThrow(ThrowTree tree, Void none) {
            complainIf(true, "throws");
            return super.visitThrow(tree, none);
        }

        @Override
        public Void visitTry(TryTree tree, Void none) {
            complainIf(true, "tries");
            return super.visitTry(tree, none);
        }

        @Override
        public Void visitCatch(CatchTree tree, Void none) {
            complainIf(true, "catches");
            return super.visitCatch(tree, none);
        }

        @Override
        public Void visitAssert(AssertTree tree, Void none) {
            complainIf(true, "asserts");
            return super.visitAssert(tree, none);
        }

        @Override
        public Void visitSynchronized(SynchronizedTree tree, Void none) {
            complainIf(true, "locks");
            return super.visitSynchronized(tree, none);
        }

        @Override
        public Void visitLambdaExpression(LambdaExpressionTree tree, Void none) {
            complainIf(true, "has a lambda");
            return super.visitLambdaExpression(tree, none);
        }

        @Override
        public Void visitMemberReference(MemberReferenceTree tree, Void none) {
            complainIf(true, "refers to a method");
            return super.visitMemberReference(tree, none);
        }

        @Override
        public Void visitImport(ImportTree tree, Void none) {
            complainIf(true, "imports");
            return super.visitImport(tree, none);
        }
    }
}
