import com.sun.source.tree.AssertTree;
import com.sun.source.tree.BlockTree;
import com.sun.source.tree.ClassTree;
import com.sun.source.tree.CompilationUnitTree;
import com.sun.source.tree.ImportTree;
import com.sun.source.tree.LambdaExpressionTree;
import com.sun.source.tree.MemberReferenceTree;
import com.sun.source.tree.MethodInvocationTree;
import com.sun.source.tree.MethodTree;
import com.sun.source.tree.SynchronizedTree;
import com.sun.source.tree.ThrowTree;
import com.sun.source.tree.Tree;
import com.sun.source.tree.TryTree;
import com.sun.source.tree.VariableTree;
import com.sun.source.util.JavacTask;
import com.sun.source.util.TreeScanner;
import com.sun.source.util.Trees;
import java.io.File;
import java.lang.reflect.Constructor;
import java.lang.reflect.Field;
import java.lang.reflect.Method;
import java.lang.reflect.Modifier;
import java.util.Arrays;
import java.util.List;
import java.util.Set;
import java.util.TreeSet;
import javax.lang.model.element.Name;
import javax.tools.JavaCompiler;
import javax.tools.StandardJavaFileManager;
import javax.tools.ToolProvider;

/** The face, and those rules of LANGUAGE.md that a look at the source can hold to. */
public final class LanguageTest {
    private static final String SOURCE = "src/main/java/RuleCourt.java";

    private static final String[] FACE = {
        "int feed(int,int,int,int,int)", "int tell(int)", "int fault()", "int where()",
        "int atom(int,int,int)", "int name(int,int,boolean)", "int places(int)", "int layer(int)",
        "int fact(int,boolean)", "boolean drop(int)", "int follows(int)", "int many(int)",
        "int one(int,int)", "int steps(int)", "int why(int)", "int because(int)",
        "int comes(int,int)", "int rule(int,int)", "int term(int,int,int)", "int go(int)",
        "int gone(int)", "int derived()", "int deepest()", "int turned(int,boolean)",
        "int count(int)", "int trouble()"};

    private LanguageTest() {
    }

    public static void main(String[] args) throws Exception {
        face();
        source();
        Checks.end("LanguageTest");
    }

    private static void face() {
        Class<?> court = RuleCourt.class;
        Checks.due("public and final", court.getModifiers(), Modifier.PUBLIC | Modifier.FINAL);
        Set<String> due = new TreeSet<>(Arrays.asList(FACE));
        Set<String> names = new TreeSet<>();
        for (String method : FACE) {
            names.add(method.substring(method.indexOf(' ') + 1, method.indexOf('(')));
        }
        for (Method method : court.getDeclaredMethods()) {
            if (Modifier.isPublic(method.getModifiers())) {
                Checks.due("of the face: " + signature(method), due.remove(signature(method)), true);
            } else {
                Checks.due("private: " + method,
                    Modifier.isPrivate(method.getModifiers()) || method.isSynthetic(), true);
                Checks.due("a name of its own: " + method, names.contains(method.getName()), false);
            }
        }
        Checks.due("missing: " + due, due.size(), 0);
        for (Field field : court.getDeclaredFields()) {
            boolean none = field.getName().equals("NONE");
            Checks.due("public: " + field, Modifier.isPublic(field.getModifiers()), none);
            Checks.due("private: " + field, Modifier.isPrivate(field.getModifiers()), !none);
        }
        for (Constructor<?> constructor : court.getDeclaredConstructors()) {
            Checks.due("parameters of " + constructor, constructor.getParameterCount(), 0);
        }
        Checks.due("NONE", RuleCourt.NONE, -1);
    }

    private static String signature(Method method) {
        StringBuilder text = new StringBuilder(method.getReturnType().getName());
        text.append(' ').append(method.getName()).append('(');
        for (Class<?> parameter : method.getParameterTypes()) {
            text.append(text.charAt(text.length() - 1) == '(' ? "" : ",").append(parameter);
        }
        return text.append(')').toString();
    }

    private static void source() throws Exception {
        JavaCompiler compiler = ToolProvider.getSystemJavaCompiler();
        try (StandardJavaFileManager files = compiler.getStandardFileManager(null, null, null)) {
            JavacTask task = (JavacTask) compiler.getTask(null, files, null, List.of(), null,
                files.getJavaFileObjects(new File(SOURCE)));
            for (CompilationUnitTree unit : task.parse()) {
                Rules rules = new Rules(unit, Trees.instance(task));
                rules.scan(unit, null);
                Checks.due("some twelve classes", rules.classes <= 12, true);
            }
        }
    }

    private static final class Rules extends TreeScanner<Void, Void> {
        private static final Set<String> IMPORTS =
            Set.of("java.util.Arrays", "java.util.NoSuchElementException");

        private final CompilationUnitTree unit;
        private final Trees trees;
        private int classes = 0;

        Rules(CompilationUnitTree unit, Trees trees) {
            this.unit = unit;
            this.trees = trees;
        }

        private long line(long position) {
            return unit.getLineMap().getLineNumber(position);
        }

        private void refuse(String what, Tree tree) {
            long position = trees.getSourcePositions().getStartPosition(unit, tree);
            Checks.due(what + " at line " + line(position), 1, 0);
        }

        @Override
        public Void visitImport(ImportTree tree, Void p) {
            if (!IMPORTS.contains(tree.getQualifiedIdentifier().toString())) {
                refuse("import", tree);
            }
            return super.visitImport(tree, p);
        }

        @Override
        public Void visitClass(ClassTree tree, Void p) {
            classes++;
            int fields = 0;
            for (Tree member : tree.getMembers()) {
                if (member instanceof VariableTree variable) {
                    boolean isStatic = variable.getModifiers().getFlags().toString()
                        .contains("static");
                    boolean isFinal = variable.getModifiers().getFlags().toString()
                        .contains("final");
                    fields += isStatic ? 0 : 1;
                    if (isStatic && !isFinal) {
                        refuse("static state", member);
                    }
                }
                if (member instanceof BlockTree) {
                    refuse("an initialiser block", member);
                }
            }
            Checks.due("some twenty fields of " + tree.getSimpleName(), fields <= 20, true);
            return super.visitClass(tree, p);
        }

        @Override
        public Void visitMethod(MethodTree tree, Void p) {
            long first = line(trees.getSourcePositions().getStartPosition(unit, tree));
            long last = line(trees.getSourcePositions().getEndPosition(unit, tree));
            Name name = tree.getName();
            Checks.due("some sixty lines of " + name, last - first < 60, true);
            Checks.due("seven parameters of " + name, tree.getParameters().size() <= 7, true);
            return super.visitMethod(tree, p);
        }

        @Override
        public Void visitMethodInvocation(MethodInvocationTree tree, Void p) {
            String called = tree.getMethodSelect().toString();
            if (called.startsWith("System.") && !called.equals("System.arraycopy")) {
                refuse("a call of " + called, tree);
            }
            if (called.endsWith("Exact") || called.endsWith("hashCode")) {
                refuse("a call of " + called, tree);
            }
            return super.visitMethodInvocation(tree, p);
        }

        @Override
        public Void visitThrow(ThrowTree tree, Void p) {
            String thrown = tree.getExpression().toString();
            Checks.due("thrown: " + thrown,
                thrown.startsWith("new NoSuchElementException(\""), true);
            return super.visitThrow(tree, p);
        }

        @Override
        public Void visitTry(TryTree tree, Void p) {
            refuse("try", tree);
            return super.visitTry(tree, p);
        }

        @Override
        public Void visitLambdaExpression(LambdaExpressionTree tree, Void p) {
            refuse("lambda", tree);
            return super.visitLambdaExpression(tree, p);
        }

        @Override
        public Void visitMemberReference(MemberReferenceTree tree, Void p) {
            refuse("method reference", tree);
            return super.visitMemberReference(tree, p);
        }

        @Override
        public Void visitSynchronized(SynchronizedTree tree, Void p) {
            refuse("synchronized", tree);
            return super.visitSynchronized(tree, p);
        }

        @Override
        public Void visitAssert(AssertTree tree, Void p) {
            refuse("assert", tree);
            return super.visitAssert(tree, p);
        }
    }
}
