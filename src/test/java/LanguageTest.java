import com.sun.source.tree.AssertTree;
import com.sun.source.tree.BinaryTree;
import com.sun.source.tree.ClassTree;
import com.sun.source.tree.CompilationUnitTree;
import com.sun.source.tree.EnhancedForLoopTree;
import com.sun.source.tree.ImportTree;
import com.sun.source.tree.LambdaExpressionTree;
import com.sun.source.tree.MemberReferenceTree;
import com.sun.source.tree.MethodInvocationTree;
import com.sun.source.tree.MethodTree;
import com.sun.source.tree.NewArrayTree;
import com.sun.source.tree.NewClassTree;
import com.sun.source.tree.SynchronizedTree;
import com.sun.source.tree.ThrowTree;
import com.sun.source.tree.Tree;
import com.sun.source.tree.TryTree;
import com.sun.source.tree.VariableTree;
import com.sun.source.util.JavacTask;
import com.sun.source.util.TreePathScanner;
import com.sun.source.util.Trees;
import java.lang.reflect.Method;
import java.lang.reflect.Modifier;
import java.nio.file.Path;
import java.util.ArrayList;
import java.util.Arrays;
import java.util.HashSet;
import java.util.List;
import java.util.Map;
import java.util.Set;
import java.util.TreeMap;
import java.util.TreeSet;
import javax.lang.model.element.Element;
import javax.lang.model.element.ElementKind;
import javax.lang.model.element.ExecutableElement;
import javax.lang.model.type.TypeMirror;
import javax.tools.JavaCompiler;
import javax.tools.StandardJavaFileManager;
import javax.tools.ToolProvider;

/** The face that the document tells, and those rules of LANGUAGE.md that can be read off the source. */
public final class LanguageTest {
    private static final Path SOURCE = Path.of("src/main/java/EndsWord.java");
    private static final String FACE = "spell(int) word(int) letter(int,int) player(int,int) of(int,int) live(int,int)"
        + " row(int,int,int) feed(int) table() told(int) turn() begin(int) on(int,int) ends(int) won(int) by(int)"
        + " has(int,int) learn(int,int) out(int) rank(int) see(int,int,int) could(int) can(int,int) begins(int)"
        + " odds(int,int):long mean(int,int):long sheet(int) looked() judge(int,int) image() undo() act(int,int,int)"
        + " trace(int) taken(int,int) count(int) tape(int,int,int) item(int,int,long) read(int,int):long"
        + " shift(int,int,int,int,int)";
    /** Rule 4: what of the library may be called, by class. */
    private static final Map<String, Set<String>> LIBRARY = Map.of(
        "java.lang.String", Set.of("length", "charAt", "isEmpty", "equals", "indexOf", "substring", "toCharArray"),
        "java.lang.Math", Set.of("max", "min", "abs", "floorMod", "floorDiv"),
        "java.lang.Integer", Set.of("bitCount", "compare", "max", "min"),
        "java.lang.System", Set.of("arraycopy"),
        "java.util.Arrays", Set.of("fill", "copyOf", "copyOfRange"),
        "java.lang.Object", Set.of("<init>"));

    private static int wrong = 0;
    private static final Set<String> facePublic = new TreeSet<>();
    private static final Map<ExecutableElement, Set<ExecutableElement>> calls = new java.util.LinkedHashMap<>();

    private static void due(boolean holds, String what) {
        if (!holds) {
            wrong++;
            System.out.println(what);
        }
    }

    public static void main(String[] args) throws Exception {
        face();
        source();
        due(deepest() <= 8, "calls that are no recursion go " + deepest() + " deep");
        System.out.println(wrong == 0 ? "the rules that are looked at are kept" : wrong + " rules are not kept");
        if (wrong != 0) {
            System.exit(1);
        }
    }

    private static void face() {
        Set<String> got = new TreeSet<>();
        for (Method m : EndsWord.class.getDeclaredMethods()) {
            if (Modifier.isPrivate(m.getModifiers())) {
                continue;
            }
            String parameters = String.join(",", Arrays.stream(m.getParameterTypes()).map(Class::getName).toList());
            String type = m.getReturnType() == int.class ? "" : ":" + m.getReturnType().getName();
            got.add(m.getName() + "(" + parameters + ")" + type);
            facePublic.add(m.getName());
            due(m.getModifiers() == Modifier.PUBLIC, m + " is not just public");
        }
        due(got.equals(new TreeSet<>(List.of(FACE.split(" ")))), "the face is " + got);
        Set<String> constants = new TreeSet<>();
        for (var f : EndsWord.class.getDeclaredFields()) {
            if (!Modifier.isPrivate(f.getModifiers())) {
                constants.add(f.getName());
            }
        }
        due(constants.equals(Set.of("NONE", "BAD", "STATE", "FULL", "NO")), "the constants are " + constants);
        due(Modifier.isFinal(EndsWord.class.getModifiers()), "the class is not final");
        due(EndsWord.class.getDeclaredConstructors().length == 1, "there is not one constructor");
    }

    private static void source() throws Exception {
        JavaCompiler javac = ToolProvider.getSystemJavaCompiler();
        try (StandardJavaFileManager files = javac.getStandardFileManager(null, null, null)) {
            JavacTask task = (JavacTask) javac.getTask(null, files, null, List.of("-proc:none"), null,
                files.getJavaFileObjects(SOURCE));
            CompilationUnitTree unit = task.parse().iterator().next();
            task.analyze();
            new Rules(Trees.instance(task), unit).scan(unit, null);
        }
    }

    /** The longest chain of calls; methods that call one another count as one. */
    private static int deepest() {
        Map<ExecutableElement, Set<ExecutableElement>> reach = new java.util.LinkedHashMap<>();
        for (ExecutableElement m : calls.keySet()) {
            Set<ExecutableElement> found = new HashSet<>();
            List<ExecutableElement> open = new ArrayList<>(calls.get(m));
            while (!open.isEmpty()) {
                ExecutableElement one = open.remove(open.size() - 1);
                if (found.add(one)) {
                    open.addAll(calls.getOrDefault(one, Set.of()));
                }
            }
            reach.put(m, found);
        }
        Map<ExecutableElement, Integer> depths = new java.util.HashMap<>();
        int most = 0;
        for (ExecutableElement m : calls.keySet()) {
            most = Math.max(most, depth(m, reach, depths));
        }
        return most;
    }

    private static int depth(ExecutableElement m, Map<ExecutableElement, Set<ExecutableElement>> reach,
            Map<ExecutableElement, Integer> depths) {
        if (depths.containsKey(m)) {
            return depths.get(m);
        }
        int below = 0;
        for (ExecutableElement one : reach.getOrDefault(m, Set.of())) {
            boolean isRound = reach.getOrDefault(one, Set.of()).contains(m) || one.equals(m);
            if (!isRound) {
                below = Math.max(below, depth(one, reach, depths));
            }
        }
        // Two methods of one round stand in one another: that is one more.
        boolean hasPartner = reach.getOrDefault(m, Set.of()).stream()
            .anyMatch(o -> !o.equals(m) && reach.getOrDefault(o, Set.of()).contains(m));
        if (hasPartner) {
            for (ExecutableElement one : reach.get(m)) {
                if (!one.equals(m) && reach.getOrDefault(one, Set.of()).contains(m)) {
                    for (ExecutableElement outer : reach.get(one)) {
                        if (!reach.getOrDefault(outer, Set.of()).contains(m)) {
                            below = Math.max(below, 1 + depth(outer, reach, depths));
                        }
                    }
                }
            }
        }
        depths.put(m, below + 1);
        return below + 1;
    }

    private static final class Rules extends TreePathScanner<Void, Void> {
        private final Trees trees;
        private final CompilationUnitTree unit;
        private ExecutableElement inside = null;
        private int classes = 0;

        Rules(Trees trees, CompilationUnitTree unit) {
            this.trees = trees;
            this.unit = unit;
        }

        private void refused(String rule, Tree tree) {
            long line = unit.getLineMap().getLineNumber(trees.getSourcePositions().getStartPosition(unit, tree));
            due(false, "rule " + rule + ", line " + line);
        }

        private Element element() {
            return trees.getElement(getCurrentPath());
        }

        private boolean isTextual(Tree part) {
            TypeMirror type = trees.getTypeMirror(com.sun.source.util.TreePath.getPath(unit, part));
            return type != null && type.toString().equals("java.lang.String");
        }

        @Override
        public Void visitImport(ImportTree t, Void v) {
            String name = t.getQualifiedIdentifier().toString();
            due(Set.of("java.util.Arrays", "java.util.ArrayList", "java.util.List").contains(name), "rule 4: " + name);
            return super.visitImport(t, v);
        }

        @Override
        public Void visitClass(ClassTree t, Void v) {
            classes++;
            due(classes <= 12, "rule 11: too many classes");
            Element e = element();
            boolean isOuter = getCurrentPath().getParentPath().getLeaf() == unit;
            var flags = e.getModifiers();
            if (!isOuter && !(flags.contains(javax.lang.model.element.Modifier.STATIC)
                    && flags.contains(javax.lang.model.element.Modifier.PRIVATE))) {
                refused("2, a class inside", t);
            }
            long fields = t.getMembers().stream()
                .filter(m -> m instanceof VariableTree f
                    && !f.getModifiers().getFlags().contains(javax.lang.model.element.Modifier.STATIC))
                .count();
            due(fields <= 20, "rule 11: fields of " + t.getSimpleName());
            return super.visitClass(t, v);
        }

        @Override
        public Void visitVariable(VariableTree t, Void v) {
            Element e = element();
            boolean isStatic = e.getModifiers().contains(javax.lang.model.element.Modifier.STATIC);
            if (isStatic) {
                boolean isFinal = e.getModifiers().contains(javax.lang.model.element.Modifier.FINAL);
                Set<String> types = Set.of("int", "long", "boolean", "char", "java.lang.String", "int[]", "long[]");
                if (!isFinal || !types.contains(e.asType().toString())) {
                    refused("5", t);
                }
            }
            return super.visitVariable(t, v);
        }

        @Override
        public Void visitMethod(MethodTree t, Void v) {
            ExecutableElement outer = inside;
            inside = (ExecutableElement) element();
            calls.computeIfAbsent(inside, m -> new HashSet<>());
            boolean isPublic = inside.getModifiers().contains(javax.lang.model.element.Modifier.PUBLIC);
            if (!isPublic && facePublic.contains(t.getName().toString())) {
                refused("1, a name of the face", t);
            }
            if (t.getParameters().size() > 7) {
                refused("11, parameters", t);
            }
            long from = unit.getLineMap().getLineNumber(trees.getSourcePositions().getStartPosition(unit, t));
            long to = unit.getLineMap().getLineNumber(trees.getSourcePositions().getEndPosition(unit, t));
            if (to - from >= 60) {
                refused("11, lines", t);
            }
            super.visitMethod(t, v);
            inside = outer;
            return null;
        }

        @Override
        public Void visitMethodInvocation(MethodInvocationTree t, Void v) {
            called(t);
            return super.visitMethodInvocation(t, v);
        }

        @Override
        public Void visitNewClass(NewClassTree t, Void v) {
            called(t);
            made(t);
            return super.visitNewClass(t, v);
        }

        @Override
        public Void visitNewArray(NewArrayTree t, Void v) {
            made(t);
            return super.visitNewArray(t, v);
        }

        /** All is made with the object: what a call made would add up over a run. */
        private void made(Tree t) {
            if (inside != null && inside.getKind() == ElementKind.METHOD) {
                refused("12, made by a call", t);
            }
        }

        private void called(Tree t) {
            ExecutableElement to = (ExecutableElement) element();
            String owner = to.getEnclosingElement().toString();
            if (!owner.startsWith("EndsWord")
                    && !LIBRARY.getOrDefault(owner, Set.of()).contains(to.getSimpleName().toString())) {
                refused("4, " + owner + "." + to, t);
            }
            if (inside != null) {
                calls.get(inside).add(to);
            }
        }

        @Override
        public Void visitBinary(BinaryTree t, Void v) {
            if (isTextual(t.getLeftOperand()) || isTextual(t.getRightOperand())) {
                refused("6 or 10, a text with an operator", t);
            }
            return super.visitBinary(t, v);
        }

        @Override
        public Void visitThrow(ThrowTree t, Void v) {
            refused("6", t);
            return super.visitThrow(t, v);
        }

        @Override
        public Void visitTry(TryTree t, Void v) {
            refused("6", t);
            return super.visitTry(t, v);
        }

        @Override
        public Void visitSynchronized(SynchronizedTree t, Void v) {
            refused("6", t);
            return super.visitSynchronized(t, v);
        }

        @Override
        public Void visitAssert(AssertTree t, Void v) {
            refused("6", t);
            return super.visitAssert(t, v);
        }

        @Override
        public Void visitLambdaExpression(LambdaExpressionTree t, Void v) {
            refused("2", t);
            return super.visitLambdaExpression(t, v);
        }

        @Override
        public Void visitMemberReference(MemberReferenceTree t, Void v) {
            refused("2", t);
            return super.visitMemberReference(t, v);
        }
    }
}
