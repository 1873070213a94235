import com.sun.source.tree.BinaryTree;
import com.sun.source.tree.ClassTree;
import com.sun.source.tree.CompilationUnitTree;
import com.sun.source.tree.CompoundAssignmentTree;
import com.sun.source.tree.IdentifierTree;
import com.sun.source.tree.LiteralTree;
import com.sun.source.tree.MemberSelectTree;
import com.sun.source.tree.MethodInvocationTree;
import com.sun.source.tree.MethodTree;
import com.sun.source.tree.NewArrayTree;
import com.sun.source.tree.NewClassTree;
import com.sun.source.tree.Tree;
import com.sun.source.tree.VariableTree;
import com.sun.source.util.JavacTask;
import com.sun.source.util.TreePath;
import com.sun.source.util.TreePathScanner;
import com.sun.source.util.Trees;
import java.io.IOException;
import java.nio.file.Path;
import java.util.ArrayDeque;
import java.util.ArrayList;
import java.util.Deque;
import java.util.EnumSet;
import java.util.HashMap;
import java.util.HashSet;
import java.util.List;
import java.util.Map;
import java.util.Set;
import java.util.TreeSet;
import javax.lang.model.element.Element;
import javax.lang.model.element.ElementKind;
import javax.lang.model.element.ExecutableElement;
import javax.lang.model.element.Modifier;
import javax.tools.JavaCompiler;
import javax.tools.StandardJavaFileManager;
import javax.tools.ToolProvider;

/** Holds src/main/java/KeysForSecond.java to the rules of ../shared/LANGUAGE.md that a reader of trees can see. */
public final class LanguageTest {
    private static final Path MAIN = Path.of("src/main/java/KeysForSecond.java");
    private static final int MOST_LINES = 60, MOST_PARAMETERS = 7, MOST_CLASSES = 12, MOST_FIELDS = 20, MOST_DEEP = 8;

    private static final Set<String> FACE = Set.of(
        "KeysForSecond()", "int count(int)", "int town(int,int,int)", "int door(int,int)",
        "int feed(int,int,int,int,int,int)", "int text()", "int force(int)", "int asks(int,int)",
        "int citizen(int,int)", "int put(int,int,int)", "int told(int,int)", "int twist(int)",
        "int give(int,int,int)", "int minute()", "int run(int,int)", "int when(int)", "int waits(int)",
        "int pair(int)", "int stand(int,int,int)", "int rounds(int,int)", "int tries(int)", "long share(int,int)",
        "int judge(int,int)", "int kinds(int,int,int)", "int doors(int,int)", "int baskets(int,int,int)",
        "int firsts(int,int,int)", "int whose(int)", "int laws(int,int)", "int film(int,int,int)",
        "int drawn(int,int,int)", "long odds(int,int,int,int)", "int image()", "int back()",
        "int sheet(int,int,int)", "int cell(int,int,int)", "int copy(int,int,int,int,int)",
        "int peopleBy(int,int,int,int)", "int taken(int,int)",
        "int NONE", "int BAD", "int STATE", "int FULL", "long NO");

    private static final Set<String> LIBRARY = Set.of(
        "java.lang.Math.max", "java.lang.Math.min", "java.lang.Math.abs", "java.lang.Math.floorMod",
        "java.lang.Math.floorDiv", "java.lang.Integer.bitCount", "java.lang.Integer.compare",
        "java.lang.System.arraycopy", "java.util.Arrays.fill", "java.lang.String.length", "java.lang.String.charAt",
        "java.lang.Object.<init>");

    private static final Set<Tree.Kind> FORBIDDEN = EnumSet.of(
        Tree.Kind.THROW, Tree.Kind.TRY, Tree.Kind.CATCH, Tree.Kind.SYNCHRONIZED, Tree.Kind.ASSERT,
        Tree.Kind.LAMBDA_EXPRESSION, Tree.Kind.MEMBER_REFERENCE, Tree.Kind.SWITCH_EXPRESSION, Tree.Kind.PACKAGE);

    private static int wrong = 0;

    private static void wrong(String what) {
        wrong++;
        System.out.println("LANGUAGE.md: " + what);
    }

    private static void rule(boolean holds, String what) {
        if (!holds) {
            wrong(what);
        }
    }

    public static void main(String[] args) throws IOException {
        JavaCompiler compiler = ToolProvider.getSystemJavaCompiler();
        try (StandardJavaFileManager files = compiler.getStandardFileManager(null, null, null)) {
            JavacTask task = (JavacTask) compiler.getTask(null, files, null, List.of("-proc:none"), null,
                files.getJavaFileObjects(MAIN));
            CompilationUnitTree unit = task.parse().iterator().next();
            task.analyze();
            Reader reader = new Reader(unit, Trees.instance(task));
            reader.scan(unit, null);
            reader.finish();
        }
        rule(wrong > 0 || selfCheck(), "the check of depth does not see depth");
        System.out.println(wrong == 0 ? "the source keeps to the rules" : wrong + " rules are broken");
        if (wrong != 0) {
            System.exit(1);
        }
    }

    private static boolean selfCheck() {
        Map<String, Set<String>> calls = new HashMap<>();
        calls.put("a", Set.of("b", "d"));
        calls.put("b", Set.of("c"));
        calls.put("c", Set.of("b", "e"));
        calls.put("d", Set.of());
        calls.put("e", Set.of());
        return deepest(calls) == 4;
    }

    /** The most methods that can stand open at once, each counted once (so that recursion counts no more). */
    private static int deepest(Map<String, Set<String>> calls) {
        int most = 0;
        for (String from : calls.keySet()) {
            most = Math.max(most, deepest(calls, from, new ArrayDeque<>()));
        }
        return most;
    }

    private static int deepest(Map<String, Set<String>> calls, String from, Deque<String> open) {
        open.push(from);
        int most = open.size();
        for (String next : calls.getOrDefault(from, Set.of())) {
            if (!open.contains(next)) {
                most = Math.max(most, deepest(calls, next, open));
            }
        }
        open.pop();
        return most;
    }

    private static final class Reader extends TreePathScanner<Void, Void> {
        final CompilationUnitTree unit;
        final Trees trees;
        final Set<String> face = new TreeSet<>();
        final Set<String> publicMethods = new HashSet<>();
        final List<String> privateMethods = new ArrayList<>();
        final Map<String, Set<String>> calls = new HashMap<>();
        int classes = 0;
        String method = null;

        Reader(CompilationUnitTree unit, Trees trees) {
            this.unit = unit;
            this.trees = trees;
        }

        void finish() {
            rule(face.equals(new TreeSet<>(FACE)), "rule 1: the face is " + face);
            for (String name : privateMethods) {
                rule(!publicMethods.contains(name), "rule 1: a private method bears the public name " + name);
            }
            rule(classes <= MOST_CLASSES, "rule 11: " + classes + " classes");
            int deep = deepest(calls);
            rule(deep <= MOST_DEEP, "rule 11: calls go " + deep + " deep");
        }

        private long line(Tree tree) {
            return unit.getLineMap().getLineNumber(trees.getSourcePositions().getStartPosition(unit, tree));
        }

        private Element element(Tree tree) {
            return trees.getElement(TreePath.getPath(unit, tree));
        }

        private boolean isText(Tree tree) {
            return "java.lang.String".equals(String.valueOf(trees.getTypeMirror(TreePath.getPath(unit, tree))));
        }

        @Override public Void scan(Tree tree, Void nothing) {
            if (tree != null && FORBIDDEN.contains(tree.getKind())) {
                wrong("line " + line(tree) + ": " + tree.getKind());
            }
            return super.scan(tree, nothing);
        }

        @Override public Void visitClass(ClassTree tree, Void nothing) {
            classes++;
            Element c = element(tree);
            boolean outer = c.getEnclosingElement().getKind() == ElementKind.PACKAGE;
            Set<Modifier> signs = c.getModifiers();
            rule(outer ? signs.equals(Set.of(Modifier.PUBLIC, Modifier.FINAL)) : signs.contains(Modifier.STATIC)
                && !signs.contains(Modifier.PUBLIC), "rule 1, 2: class " + c);
            rule(c.getEnclosingElement().getKind() != ElementKind.METHOD, "rule 2: local class " + c);
            int fields = 0;
            for (Element e : c.getEnclosedElements()) {
                member(e, outer);
                fields += e.getKind() == ElementKind.FIELD && !e.getModifiers().contains(Modifier.STATIC) ? 1 : 0;
            }
            rule(fields <= MOST_FIELDS, "rule 11: " + c + " has " + fields + " fields");
            return super.visitClass(tree, nothing);
        }

        private void member(Element e, boolean outer) {
            Set<Modifier> signs = e.getModifiers();
            boolean open = !signs.contains(Modifier.PRIVATE);
            String name = e.getSimpleName().toString();
            if (e.getKind() == ElementKind.FIELD) {
                rule(!signs.contains(Modifier.STATIC) || signs.contains(Modifier.FINAL), "rule 5: " + e);
                if (outer && open) {
                    face.add(e.asType() + " " + name);
                    rule(signs.containsAll(Set.of(Modifier.PUBLIC, Modifier.STATIC, Modifier.FINAL)), "rule 1: " + e);
                }
            }
            if (e.getKind() == ElementKind.METHOD || e.getKind() == ElementKind.CONSTRUCTOR) {
                boolean method = e.getKind() == ElementKind.METHOD;
                if (outer && open) {
                    face.add(method ? ((ExecutableElement) e).getReturnType() + " " + e : e.toString());
                    rule(signs.equals(Set.of(Modifier.PUBLIC)), "rule 1: " + e);
                }
                if (method) {
                    (outer && open ? publicMethods : privateMethods).add(name);
                    rule(!Set.of("equals", "hashCode", "toString", "finalize").contains(name), "rule 6: " + e);
                }
            }
            rule(e.getKind() != ElementKind.STATIC_INIT && e.getKind() != ElementKind.INSTANCE_INIT, "rule 5: " + e);
        }

        @Override public Void visitMethod(MethodTree tree, Void nothing) {
            Element e = element(tree);
            String outer = method;
            method = e.getEnclosingElement() + "." + e;
            calls.putIfAbsent(method, new HashSet<>());
            long first = line(tree);
            long last = unit.getLineMap().getLineNumber(trees.getSourcePositions().getEndPosition(unit, tree));
            rule(last - first < MOST_LINES, "rule 11: " + method + " has " + (last - first + 1) + " lines");
            rule(tree.getParameters().size() <= MOST_PARAMETERS, "rule 11: parameters of " + method);
            super.visitMethod(tree, nothing);
            method = outer;
            return null;
        }

        @Override public Void visitMethodInvocation(MethodInvocationTree tree, Void nothing) {
            Element e = element(tree.getMethodSelect());
            String owner = e.getEnclosingElement().toString();
            if (owner.startsWith("KeysForSecond")) {
                calls.computeIfAbsent(method, m -> new HashSet<>()).add(owner + "." + e);
            } else {
                String name = owner + "." + e.getSimpleName();
                rule(LIBRARY.contains(name), "rule 4: line " + line(tree) + ": " + name);
            }
            return super.visitMethodInvocation(tree, nothing);
        }

        @Override public Void visitNewClass(NewClassTree tree, Void nothing) {
            rule(tree.getClassBody() == null, "rule 2: anonymous class in line " + line(tree));
            made(tree);
            return super.visitNewClass(tree, nothing);
        }

        @Override public Void visitNewArray(NewArrayTree tree, Void nothing) {
            made(tree);
            return super.visitNewArray(tree, nothing);
        }

        /** All calls share one room: what is made is made by constructors and used again. */
        private void made(Tree tree) {
            rule(method == null || method.contains("(") && isConstructor(), "made by a call, in line " + line(tree));
        }

        private boolean isConstructor() {
            String owner = method.substring(0, method.lastIndexOf('.', method.indexOf('(')));
            String simple = owner.substring(owner.lastIndexOf('.') + 1);
            return method.startsWith(owner + "." + simple + "(");
        }

        @Override public Void visitVariable(VariableTree tree, Void nothing) {
            rule(!"var".equals(String.valueOf(tree.getType())), "rule 3: var in line " + line(tree));
            return super.visitVariable(tree, nothing);
        }

        @Override public Void visitBinary(BinaryTree tree, Void nothing) {
            boolean texts = isText(tree.getLeftOperand()) || isText(tree.getRightOperand());
            rule(!texts, "rule 6, 10: texts joined or compared in line " + line(tree));
            return super.visitBinary(tree, nothing);
        }

        @Override public Void visitCompoundAssignment(CompoundAssignmentTree tree, Void nothing) {
            rule(!isText(tree.getVariable()), "rule 10: line " + line(tree));
            return super.visitCompoundAssignment(tree, nothing);
        }

        @Override public Void visitLiteral(LiteralTree tree, Void nothing) {
            if (tree.getValue() instanceof String s) {
                rule(s.chars().allMatch(c -> c >= 1 && c <= 127), "rule 4: signs of a text in line " + line(tree));
            }
            rule(!(tree.getValue() instanceof Double || tree.getValue() instanceof Float), "a fraction, " + line(tree));
            return super.visitLiteral(tree, nothing);
        }

        @Override public Void visitIdentifier(IdentifierTree tree, Void nothing) {
            used(element(tree), tree);
            return super.visitIdentifier(tree, nothing);
        }

        @Override public Void visitMemberSelect(MemberSelectTree tree, Void nothing) {
            used(element(tree), tree);
            return super.visitMemberSelect(tree, nothing);
        }

        /** Classes of the library that are named at all. */
        private void used(Element e, Tree tree) {
            if (e != null && e.getKind() == ElementKind.CLASS && !e.toString().startsWith("KeysForSecond")) {
                rule(Set.of("java.lang.Math", "java.lang.Integer", "java.lang.System", "java.lang.String",
                    "java.util.Arrays").contains(e.toString()), "rule 4: line " + line(tree) + ": " + e);
            }
        }
    }
}
