import com.sun.source.tree.AssertTree;
import com.sun.source.tree.BinaryTree;
import com.sun.source.tree.ClassTree;
import com.sun.source.tree.CompilationUnitTree;
import com.sun.source.tree.ImportTree;
import com.sun.source.tree.LambdaExpressionTree;
import com.sun.source.tree.MemberReferenceTree;
import com.sun.source.tree.MethodInvocationTree;
import com.sun.source.tree.MethodTree;
import com.sun.source.tree.NewClassTree;
import com.sun.source.tree.SynchronizedTree;
import com.sun.source.tree.ThrowTree;
import com.sun.source.tree.Tree;
import com.sun.source.tree.TryTree;
import com.sun.source.tree.VariableTree;
import com.sun.source.util.JavacTask;
import com.sun.source.util.TreePathScanner;
import com.sun.source.util.Trees;
import java.io.File;
import java.util.HashMap;
import java.util.HashSet;
import java.util.List;
import java.util.Map;
import java.util.Set;
import javax.lang.model.element.Element;
import javax.lang.model.element.Modifier;
import javax.tools.JavaCompiler;
import javax.tools.StandardJavaFileManager;
import javax.tools.ToolProvider;

/** What of ../shared/LANGUAGE.md the compiler's own tree can tell; run from the project's root. */
public final class LanguageTest {
    private static final Check CHECK = new Check("language");
    private static final Map<Element, Set<Element>> CALLS = new HashMap<>();
    private static final Set<String> FACE = new HashSet<>();

    public static void main(String[] args) throws Exception {
        JavaCompiler compiler = ToolProvider.getSystemJavaCompiler();
        StandardJavaFileManager files = compiler.getStandardFileManager(null, null, null);
        JavacTask task = (JavacTask) compiler.getTask(null, files, null, List.of("-proc:none"), null,
            files.getJavaFileObjects(new File("src/main/java/HireYard.java")));
        CompilationUnitTree unit = task.parse().iterator().next();
        task.analyze();
        CHECK.is("1: one class in the file", unit.getTypeDecls().size(), 1);
        ClassTree face = (ClassTree) unit.getTypeDecls().get(0);
        for (Tree member : face.getMembers()) {
            if (member instanceof MethodTree m && m.getModifiers().getFlags().contains(Modifier.PUBLIC)) {
                FACE.add(m.getName().toString());
            }
        }
        CHECK.is("1: public methods and the constructor", FACE.size(), 49);
        new Rules(Trees.instance(task), unit).scan(unit, null);
        for (Element from : CALLS.keySet()) {
            CHECK.is("11: calls from " + from + " at most eight deep", deepest(from, new HashSet<>()) <= 8 ? 1 : 0, 1);
        }
        CHECK.done();
    }

    /** The most methods that stand open at once from here on, without any twice. */
    private static int deepest(Element from, Set<Element> open) {
        open.add(from);
        int most = 0;
        for (Element to : CALLS.getOrDefault(from, Set.of())) {
            if (!open.contains(to)) {
                most = Math.max(most, deepest(to, open));
            }
        }
        open.remove(from);
        return most + 1;
    }

    private static final class Rules extends TreePathScanner<Void, Element> {
        private final Trees trees;
        private final CompilationUnitTree unit;
        private int classes;

        Rules(Trees trees, CompilationUnitTree unit) {
            this.trees = trees;
            this.unit = unit;
        }

        private void refuse(String what, Tree tree) {
            long line = unit.getLineMap().getLineNumber(trees.getSourcePositions().getStartPosition(unit, tree));
            CHECK.is(what + " in line " + line, 1, 0);
        }

        @Override
        public Void visitImport(ImportTree tree, Element in) {
            CHECK.is("4: import", tree.getQualifiedIdentifier().toString().equals("java.util.Arrays") ? 1 : 0, 1);
            return null;
        }

        @Override
        public Void visitClass(ClassTree tree, Element in) {
            classes++;
            CHECK.is("11: classes", classes <= 12 ? 1 : 0, 1);
            Set<Modifier> flags = tree.getModifiers().getFlags();
            boolean outer = tree.getSimpleName().contentEquals("HireYard");
            if (outer ? !flags.equals(Set.of(Modifier.PUBLIC, Modifier.FINAL)) : !flags.contains(Modifier.STATIC)) {
                refuse("1, 2: the class's words", tree);
            }
            int fields = 0;
            for (Tree member : tree.getMembers()) {
                if (member instanceof VariableTree v) {
                    Set<Modifier> words = v.getModifiers().getFlags();
                    boolean isStatic = words.contains(Modifier.STATIC);
                    fields += isStatic ? 0 : 1;
                    if (isStatic && !words.contains(Modifier.FINAL)) {
                        refuse("5: a static field that may change", v);
                    }
                    if (outer && !words.contains(Modifier.PRIVATE) && !words.contains(Modifier.PUBLIC)) {
                        refuse("1: a member of the face", v);
                    }
                }
            }
            CHECK.is("11: fields of " + tree.getSimpleName(), fields <= 20 ? 1 : 0, 1);
            return super.visitClass(tree, in);
        }

        @Override
        public Void visitMethod(MethodTree tree, Element in) {
            boolean isFace = tree.getModifiers().getFlags().contains(Modifier.PUBLIC);
            if (!isFace && FACE.contains(tree.getName().toString()) && !tree.getName().contentEquals("<init>")) {
                refuse("1: a public method's name " + tree.getName(), tree);
            }
            CHECK.is("11: parameters of " + tree.getName(), tree.getParameters().size() <= 7 ? 1 : 0, 1);
            long from = trees.getSourcePositions().getStartPosition(unit, tree);
            long to = trees.getSourcePositions().getEndPosition(unit, tree);
            long lines = unit.getLineMap().getLineNumber(to) - unit.getLineMap().getLineNumber(from) + 1;
            CHECK.is("11: lines of " + tree.getName(), lines <= 60 ? 1 : 0, 1);
            Element here = trees.getElement(getCurrentPath());
            CALLS.put(here, new HashSet<>());
            return super.visitMethod(tree, here);
        }

        @Override
        public Void visitMethodInvocation(MethodInvocationTree tree, Element in) {
            Element called = trees.getElement(getCurrentPath());
            String owner = called.getEnclosingElement().toString();
            if (owner.startsWith("HireYard")) {
                CALLS.get(in).add(called);
            } else if (!List.of("java.lang.Math", "java.util.Arrays", "java.lang.String").contains(owner)
                && !called.getSimpleName().contentEquals("<init>")) {
                refuse("4: a call of " + owner, tree);
            }
            if (called.getSimpleName().toString().endsWith("Exact")) {
                refuse("4: a call that may throw", tree);
            }
            return super.visitMethodInvocation(tree, in);
        }

        @Override
        public Void visitNewClass(NewClassTree tree, Element in) {
            if (tree.getClassBody() != null) {
                refuse("2: an anonymous class", tree);
            }
            return super.visitNewClass(tree, in);
        }

        @Override
        public Void visitBinary(BinaryTree tree, Element in) {
            boolean text = tree.getLeftOperand().getKind() == Tree.Kind.STRING_LITERAL
                || tree.getRightOperand().getKind() == Tree.Kind.STRING_LITERAL;
            if (tree.getKind() == Tree.Kind.PLUS && text) {
                refuse("10: texts joined by +", tree);
            }
            return super.visitBinary(tree, in);
        }

        @Override
        public Void visitThrow(ThrowTree tree, Element in) {
            refuse("6: throw", tree);
            return null;
        }

        @Override
        public Void visitTry(TryTree tree, Element in) {
            refuse("6: try", tree);
            return null;
        }

        @Override
        public Void visitSynchronized(SynchronizedTree tree, Element in) {
            refuse("6: synchronized", tree);
            return null;
        }

        @Override
        public Void visitAssert(AssertTree tree, Element in) {
            refuse("6: assert", tree);
            return null;
        }

        @Override
        public Void visitLambdaExpression(LambdaExpressionTree tree, Element in) {
            refuse("2: a lambda", tree);
            return null;
        }

        @Override
        public Void visitMemberReference(MemberReferenceTree tree, Element in) {
            refuse("2: a method reference", tree);
            return null;
        }
    }
}
