import com.sun.source.tree.AssertTree;
import com.sun.source.tree.BinaryTree;
import com.sun.source.tree.CatchTree;
import com.sun.source.tree.ClassTree;
import com.sun.source.tree.CompilationUnitTree;
import com.sun.source.tree.InstanceOfTree;
import com.sun.source.tree.LambdaExpressionTree;
import com.sun.source.tree.MemberReferenceTree;
import com.sun.source.tree.MethodInvocationTree;
import com.sun.source.tree.MethodTree;
import com.sun.source.tree.NewClassTree;
import com.sun.source.tree.SynchronizedTree;
import com.sun.source.tree.ThrowTree;
import com.sun.source.tree.Tree;
import com.sun.source.tree.TryTree;
import com.sun.source.tree.VariableTree;
import com.sun.source.util.JavacTask;
import com.sun.source.util.SourcePositions;
import com.sun.source.util.TreePathScanner;
import com.sun.source.util.Trees;
import java.io.File;
import java.util.ArrayList;
import java.util.List;
import java.util.Map;
import java.util.Set;
import java.util.TreeMap;
import java.util.TreeSet;
import javax.lang.model.element.Element;
import javax.lang.model.element.ElementKind;
import javax.lang.model.element.ExecutableElement;
import javax.lang.model.element.Modifier;
import javax.lang.model.element.TypeElement;
import javax.lang.model.type.TypeKind;
import javax.lang.model.type.TypeMirror;
import javax.tools.JavaCompiler;
import javax.tools.StandardJavaFileManager;
import javax.tools.ToolProvider;

/** Rules of LANGUAGE.md that words in the source can't show: what is called, how deep, what types and fields there are. */
public final class LanguageTest {
    private static final int MOST_DEEP = 8;
    private static final int MOST_PARAMETERS = 7;
    private static final int MOST_LINES = 60;
    private static final int MOST_CLASSES = 12;
    private static final int MOST_FIELDS = 20;
    /** Rule 4, as far as the class uses it. */
    private static final Set<String> LIBRARY = Set.of("java.lang.String.length", "java.lang.String.charAt",
        "java.lang.String.indexOf", "java.lang.Math.max", "java.lang.Math.min", "java.lang.Math.abs",
        "java.util.Arrays.fill", "java.util.Arrays.copyOf", "java.lang.Object.<init>");
    private static final Set<String> STATICS = Set.of("int", "long", "boolean", "char", "java.lang.String",
        "int[]", "long[]", "char[]", "byte[]");
    private static final Set<String> TYPES = Set.of("int", "long", "short", "byte", "char", "boolean", "java.lang.String",
        "int[]", "long[]", "short[]", "byte[]", "char[]", "boolean[]");

    private static final Map<String, Set<String>> CALLS = new TreeMap<>();
    private static int classes = 0;

    public static void main(String[] args) throws Exception {
        read("src/main/java/LashRing.java");
        Check.due("rule 11: classes " + classes, classes <= MOST_CLASSES ? 1 : 0, 1);
        depth();
        Check.end("LanguageTest");
    }

    private static void read(String path) throws Exception {
        JavaCompiler compiler = ToolProvider.getSystemJavaCompiler();
        try (StandardJavaFileManager files = compiler.getStandardFileManager(null, null, null)) {
            JavacTask task = (JavacTask) compiler.getTask(null, files, null, List.of("-proc:none"), null,
                files.getJavaFileObjects(new File(path)));
            Iterable<? extends CompilationUnitTree> units = task.parse();
            task.analyze();
            for (CompilationUnitTree unit : units) {
                new Look(Trees.instance(task), unit).scan(unit, null);
            }
        }
    }

    /** Walks the source; a call's edge goes from the method about it to the one it calls. */
    private static final class Look extends TreePathScanner<Void, Void> {
        private final Trees trees;
        private final CompilationUnitTree unit;
        private String about = "";

        Look(Trees trees, CompilationUnitTree unit) {
            this.trees = trees;
            this.unit = unit;
        }

        private void refuse(int rule, String what) {
            Check.due("rule " + rule + ": " + what, 1, 0);
        }

        private static String nameOf(Element method) {
            return ((TypeElement) method.getEnclosingElement()).getQualifiedName() + "." + method.getSimpleName();
        }

        private void calls(Element method) {
            String name = nameOf(method);
            if (name.startsWith("LashRing")) {
                CALLS.computeIfAbsent(about, k -> new TreeSet<>()).add(name);
            } else {
                Check.due("rule 4: " + about + " calls " + name, LIBRARY.contains(name) ? 1 : 0, 1);
            }
        }

        @Override
        public Void visitClass(ClassTree tree, Void none) {
            classes++;
            Element type = trees.getElement(getCurrentPath());
            Check.due("rule 2: the kind of " + type, type.getKind() == ElementKind.CLASS ? 1 : 0, 1);
            boolean inside = type.getEnclosingElement().getKind() == ElementKind.CLASS;
            boolean apart = type.getModifiers().contains(Modifier.STATIC);
            Check.due("rule 2: static inside: " + type, inside == apart ? 1 : 0, 1);
            int fields = 0;
            for (Element e : type.getEnclosedElements()) {
                fields += e.getKind() == ElementKind.FIELD && !e.getModifiers().contains(Modifier.STATIC) ? 1 : 0;
                Check.due("rule 5: a static block in " + type, e.getKind() == ElementKind.STATIC_INIT ? 1 : 0, 0);
            }
            Check.due("rule 11: fields of " + type + ": " + fields, fields <= MOST_FIELDS ? 1 : 0, 1);
            return super.visitClass(tree, none);
        }

        @Override
        public Void visitMethod(MethodTree tree, Void none) {
            ExecutableElement method = (ExecutableElement) trees.getElement(getCurrentPath());
            String before = about;
            about = nameOf(method);
            CALLS.computeIfAbsent(about, k -> new TreeSet<>());
            int parameters = tree.getParameters().size();
            Check.due("rule 11: parameters of " + about, parameters <= MOST_PARAMETERS ? 1 : 0, 1);
            SourcePositions at = trees.getSourcePositions();
            long lines = unit.getLineMap().getLineNumber(Math.max(0, at.getEndPosition(unit, tree)))
                - unit.getLineMap().getLineNumber(at.getStartPosition(unit, tree)) + 1;
            Check.due("rule 11: lines of " + about + ": " + lines, lines <= MOST_LINES ? 1 : 0, 1);
            super.visitMethod(tree, none);
            about = before;
            return null;
        }

        @Override
        public Void visitVariable(VariableTree tree, Void none) {
            Element variable = trees.getElement(getCurrentPath());
            Set<Modifier> said = variable.getModifiers();
            TypeMirror type = variable.asType();
            if (variable.getKind() == ElementKind.FIELD && said.contains(Modifier.STATIC)) {
                boolean fixed = said.contains(Modifier.FINAL) && STATICS.contains(type.toString());
                Check.due("rule 5: " + variable, fixed ? 1 : 0, 1);
            }
            boolean own = type.toString().matches("LashRing(\\.\\w+)?(\\[\\])?");
            Check.due("rule 3: " + type + " " + variable, own || TYPES.contains(type.toString()) ? 1 : 0, 1);
            return super.visitVariable(tree, none);
        }

        @Override
        public Void visitMethodInvocation(MethodInvocationTree tree, Void none) {
            calls(trees.getElement(getCurrentPath()));
            return super.visitMethodInvocation(tree, none);
        }

        @Override
        public Void visitNewClass(NewClassTree tree, Void none) {
            calls(trees.getElement(getCurrentPath()));
            boolean plain = tree.getClassBody() == null && trees.getTypeMirror(getCurrentPath()).getKind() == TypeKind.DECLARED;
            Check.due("rule 2: a class of no name in " + about, plain ? 1 : 0, 1);
            return super.visitNewClass(tree, none);
        }

        @Override
        public Void visitBinary(BinaryTree tree, Void none) {
            String type = String.valueOf(trees.getTypeMirror(getCurrentPath()));
            Check.due("rule 10: a text joined by + in " + about, type.equals("java.lang.String") ? 1 : 0, 0);
            return super.visitBinary(tree, none);
        }

        @Override
        public Void visitLambdaExpression(LambdaExpressionTree tree, Void none) {
            refuse(2, "a lambda in " + about);
            return null;
        }

        @Override
        public Void visitMemberReference(MemberReferenceTree tree, Void none) {
            refuse(2, "a reference to a method in " + about);
            return null;
        }

        @Override
        public Void visitThrow(ThrowTree tree, Void none) {
            refuse(6, "throw in " + about);
            return null;
        }

        @Override
        public Void visitTry(TryTree tree, Void none) {
            refuse(6, "try in " + about);
            return null;
        }

        @Override
        public Void visitCatch(CatchTree tree, Void none) {
            refuse(6, "catch in " + about);
            return null;
        }

        @Override
        public Void visitSynchronized(SynchronizedTree tree, Void none) {
            refuse(6, "synchronized in " + about);
            return null;
        }

        @Override
        public Void visitAssert(AssertTree tree, Void none) {
            refuse(6, "assert in " + about);
            return null;
        }

        @Override
        public Void visitInstanceOf(InstanceOfTree tree, Void none) {
            boolean plain = tree.getPattern() == null || tree.getPattern().getKind() == Tree.Kind.BINDING_PATTERN;
            Check.due("rule 6: a pattern in " + about, plain ? 1 : 0, 1);
            return super.visitInstanceOf(tree, none);
        }
    }

    // ---- rule 11: calls that are no recursion go at most eight deep; rule 8: who calls itself

    private static boolean reaches(String from, String to) {
        Set<String> met = new TreeSet<>();
        List<String> open = new ArrayList<>(CALLS.getOrDefault(from, Set.of()));
        while (!open.isEmpty()) {
            String next = open.remove(open.size() - 1);
            if (met.add(next)) {
                open.addAll(CALLS.getOrDefault(next, Set.of()));
            }
        }
        return met.contains(to);
    }

    /** Methods that call one another in a ring are one level. */
    private static int deep(String from, Map<String, Integer> known) {
        Integer told = known.get(from);
        if (told != null) {
            return told;
        }
        Set<String> ring = new TreeSet<>(Set.of(from));
        for (String other : CALLS.keySet()) {
            if (reaches(from, other) && reaches(other, from)) {
                ring.add(other);
            }
        }
        int most = 0;
        for (String member : ring) {
            for (String next : CALLS.getOrDefault(member, Set.of())) {
                most = ring.contains(next) ? most : Math.max(most, deep(next, known));
            }
        }
        for (String member : ring) {
            known.put(member, most + 1);
        }
        return most + 1;
    }

    private static void depth() {
        Map<String, Integer> known = new TreeMap<>();
        int deepest = 0;
        for (String method : CALLS.keySet()) {
            int levels = deep(method, known);
            deepest = Math.max(deepest, levels);
            Check.due("rule 11: calls from " + method + " on: " + levels, levels <= MOST_DEEP ? 1 : 0, 1);
            boolean mayRecur = method.startsWith("LashRing.Reader.read");
            Check.due("rule 8: " + method + " calls itself", reaches(method, method) && !mayRecur ? 1 : 0, 0);
        }
        Check.due("the calls were met at all", deepest > 1 ? 1 : 0, 1);
    }
}
