import com.sun.source.tree.*;
import com.sun.source.util.JavacTask;
import com.sun.source.util.TreePath;
import com.sun.source.util.TreePathScanner;
import com.sun.source.util.Trees;
import java.io.File;
import java.util.*;
import javax.lang.model.element.*;
import javax.lang.model.type.TypeKind;
import javax.tools.JavaCompiler;
import javax.tools.StandardJavaFileManager;
import javax.tools.ToolProvider;

/** What of LANGUAGE.md can be seen by reading the program's tree: the rules' numbers stand with each check. */
public final class LanguageTest {
    private static final String SOURCE = "src/main/java/LoopsToUnits.java";
    private static final int MOST_LINES = 60;
    private static final int MOST_PARAMETERS = 7;
    private static final int MOST_DEPTH = 8;
    private static final int MOST_CLASSES = 12;
    private static final int MOST_FIELDS = 20;

    /** Rule 4, as far as the program has use for it. */
    private static final Set<String> LIBRARY = Set.of(
            "java.lang.Math.max", "java.lang.Math.min", "java.lang.Math.floorMod", "java.lang.Math.floorDiv",
            "java.lang.Integer.bitCount", "java.lang.System.arraycopy", "java.util.Arrays.fill", "java.lang.Object.<init>",
            "java.util.NoSuchElementException.<init>");
    private static final Set<String> EXCEPTIONS = Set.of("NoSuchElementException");

    private final List<String> faults = new ArrayList<>();
    private final Map<String, Set<String>> callees = new TreeMap<>();
    private final Set<String> face = new TreeSet<>();
    private final Set<String> hidden = new TreeSet<>();
    private int classes = 0;

    private void fault(int rule, String what) {
        faults.add("rule " + rule + ": " + what);
    }

    private final class Walk extends TreePathScanner<Void, String> {
        private final Trees trees;
        private final CompilationUnitTree unit;

        Walk(Trees trees, CompilationUnitTree unit) {
            this.trees = trees;
            this.unit = unit;
        }

        private long line(long position) {
            return unit.getLineMap().getLineNumber(position);
        }

        private long lines(Tree t) {
            return line(trees.getSourcePositions().getEndPosition(unit, t)) - line(trees.getSourcePositions().getStartPosition(unit, t)) + 1;
        }

        private String at(Tree t) {
            return " (line " + line(trees.getSourcePositions().getStartPosition(unit, t)) + ")";
        }

        private Element element(Tree t) {
            return trees.getElement(TreePath.getPath(unit, t));
        }

        @Override
        public Void visitClass(ClassTree t, String in) {
            Tree outside = getCurrentPath().getParentPath().getLeaf();
            boolean outer = outside.getKind() == Tree.Kind.COMPILATION_UNIT;
            Set<Modifier> flags = t.getModifiers().getFlags();
            classes++;
            if (!outer && outside.getKind() != Tree.Kind.CLASS) {
                fault(2, "a local class" + at(t));
            }
            if (!outer && (!flags.contains(Modifier.STATIC) || flags.contains(Modifier.PUBLIC) || flags.contains(Modifier.PROTECTED))) {
                fault(1, t.getSimpleName() + " is not static, or is seen outside");
            }
            int fields = 0;
            for (Tree member : t.getMembers()) {
                if (member instanceof VariableTree) {
                    VariableTree field = (VariableTree) member;
                    Set<Modifier> of = field.getModifiers().getFlags();
                    fields += of.contains(Modifier.STATIC) ? 0 : 1;
                    if (of.contains(Modifier.STATIC) && !of.contains(Modifier.FINAL)) {
                        fault(5, field.getName() + " is static and not final");
                    }
                    if (outer && !of.contains(Modifier.PRIVATE) && !field.getName().contentEquals("NONE")) {
                        fault(1, field.getName() + " is not private");
                    }
                }
                if (member instanceof BlockTree) {
                    fault(5, "an initialiser block" + at(member));
                }
            }
            if (fields > MOST_FIELDS) {
                fault(11, t.getSimpleName() + " has " + fields + " fields");
            }
            return super.visitClass(t, in);
        }

        @Override
        public Void visitMethod(MethodTree t, String in) {
            ExecutableElement me = (ExecutableElement) element(t);
            String name = nameOf(me);
            callees.putIfAbsent(name, new TreeSet<>());
            boolean outer = me.getEnclosingElement().getSimpleName().contentEquals("LoopsToUnits");
            boolean seen = me.getModifiers().contains(Modifier.PUBLIC);
            if (outer && !seen && !me.getModifiers().contains(Modifier.PRIVATE)) {
                fault(1, name + " is neither public nor private");
            }
            if (me.getKind() == ElementKind.METHOD) {
                (outer && seen ? face : hidden).add(t.getName().toString());
            }
            if (t.getParameters().size() > MOST_PARAMETERS) {
                fault(11, name + " has too many parameters");
            }
            if (lines(t) > MOST_LINES) {
                fault(11, name + " is " + lines(t) + " lines long");
            }
            return super.visitMethod(t, name);
        }

        private void called(Element to, String in, Tree t) {
            if (!(to instanceof ExecutableElement)) {
                return;
            }
            String name = nameOf((ExecutableElement) to);
            callees.computeIfAbsent(in == null ? "LoopsToUnits.<init>" : in, x -> new TreeSet<>()).add(name);
            if (!name.startsWith("LoopsToUnits") && !LIBRARY.contains(name)) {
                fault(4, name + at(t));
            }
        }

        @Override
        public Void visitMethodInvocation(MethodInvocationTree t, String in) {
            called(element(t.getMethodSelect()), in, t);
            if (t.getMethodSelect().toString().equals("Arrays.fill")) {
                String type = trees.getTypeMirror(TreePath.getPath(unit, t.getArguments().get(0))).toString();
                if (!Set.of("int[]", "long[]").contains(type)) {
                    fault(4, "Arrays.fill over " + type + at(t));
                }
            }
            return super.visitMethodInvocation(t, in);
        }

        @Override
        public Void visitNewClass(NewClassTree t, String in) {
            called(element(t), in, t);
            if (t.getClassBody() != null) {
                fault(2, "an anonymous class" + at(t));
            }
            return super.visitNewClass(t, in);
        }

        @Override
        public Void visitLambdaExpression(LambdaExpressionTree t, String in) {
            fault(2, "a lambda" + at(t));
            return super.visitLambdaExpression(t, in);
        }

        @Override
        public Void visitMemberReference(MemberReferenceTree t, String in) {
            fault(2, "a method reference" + at(t));
            return super.visitMemberReference(t, in);
        }

        @Override
        public Void visitTry(TryTree t, String in) {
            fault(6, "a try, for which there is no need" + at(t));
            return super.visitTry(t, in);
        }

        @Override
        public Void visitThrow(ThrowTree t, String in) {
            if (!(t.getExpression() instanceof NewClassTree)
                    || !EXCEPTIONS.contains(((NewClassTree) t.getExpression()).getIdentifier().toString())) {
                fault(6, "another throw" + at(t));
            }
            return super.visitThrow(t, in);
        }

        @Override
        public Void visitSynchronized(SynchronizedTree t, String in) {
            fault(6, "synchronized" + at(t));
            return super.visitSynchronized(t, in);
        }

        @Override
        public Void visitAssert(AssertTree t, String in) {
            fault(6, "assert" + at(t));
            return super.visitAssert(t, in);
        }

        @Override
        public Void visitTypeCast(TypeCastTree t, String in) {
            if (!(t.getType() instanceof PrimitiveTypeTree)) {
                fault(6, "a cast of an object" + at(t));
            }
            return super.visitTypeCast(t, in);
        }

        @Override
        public Void visitBinary(BinaryTree t, String in) {
            TypeKind kind = trees.getTypeMirror(getCurrentPath()).getKind();
            if (kind == TypeKind.DECLARED) {
                fault(10, "texts are joined by +" + at(t));
            }
            return super.visitBinary(t, in);
        }
    }

    private static String nameOf(ExecutableElement e) {
        return ((TypeElement) e.getEnclosingElement()).getQualifiedName() + "." + e.getSimpleName();
    }

    /** The longest chain of calls from a method on; a ring of calls is recursion, and counts once. */
    private int depth(String from, Deque<String> open) {
        int deepest = 0;
        for (String to : callees.getOrDefault(from, Set.of())) {
            if (!open.contains(to)) {
                open.push(to);
                deepest = Math.max(deepest, depth(to, open));
                open.pop();
            }
        }
        return deepest + 1;
    }

    private void checkCalls() {
        for (String name : face) {
            if (hidden.contains(name)) {
                fault(1, "a hidden method bears the name of " + name);
            }
            String from = "LoopsToUnits." + name;
            int deep = depth(from, new ArrayDeque<>(List.of(from)));
            if (deep > MOST_DEPTH) {
                fault(11, "calls from " + name + " go " + deep + " deep");
            }
        }
        if (classes > MOST_CLASSES) {
            fault(11, classes + " classes");
        }
    }

    private void read() throws Exception {
        JavaCompiler javac = ToolProvider.getSystemJavaCompiler();
        try (StandardJavaFileManager files = javac.getStandardFileManager(null, null, null)) {
            JavacTask task = (JavacTask) javac.getTask(null, files, null, List.of("-proc:none"), null,
                    files.getJavaFileObjects(new File(SOURCE)));
            CompilationUnitTree unit = task.parse().iterator().next();
            task.analyze();
            if (unit.getPackageName() != null) {
                fault(1, "a package line");
            }
            for (ImportTree i : unit.getImports()) {
                if (!Set.of("java.util.Arrays", "java.util.NoSuchElementException").contains(i.getQualifiedIdentifier().toString())) {
                    fault(4, "import of " + i.getQualifiedIdentifier());
                }
            }
            new Walk(Trees.instance(task), unit).scan(unit, null);
        }
    }

    public static void main(String[] args) throws Exception {
        LanguageTest test = new LanguageTest();
        test.read();
        test.checkCalls();
        test.faults.forEach(System.out::println);
        int methods = test.callees.size();
        System.out.println("LanguageTest: " + methods + " methods in " + test.classes + " classes read");
        System.out.println((test.faults.isEmpty() ? 1 : 0) + " passed, " + test.faults.size() + " failed");
        System.exit(test.faults.isEmpty() && methods > 50 ? 0 : 1);
    }
}
