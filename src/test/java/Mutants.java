import com.sun.source.tree.*;
import com.sun.source.util.JavacTask;
import com.sun.source.util.SourcePositions;
import com.sun.source.util.TreeScanner;
import com.sun.source.util.Trees;
import java.io.ByteArrayOutputStream;
import java.io.IOException;
import java.io.InputStream;
import java.io.OutputStream;
import java.lang.reflect.Method;
import java.net.URI;
import java.nio.file.Files;
import java.nio.file.Path;
import java.util.ArrayList;
import java.util.HashMap;
import java.util.List;
import java.util.Map;
import java.util.TreeMap;
import java.util.concurrent.ExecutorService;
import java.util.concurrent.Executors;
import java.util.concurrent.Future;
import javax.tools.*;

/**
 * Not a test, but what looks at the tests: the program is changed in one place, again and again, and the sentences'
 * tests are run; a change that none of them sees is printed. It takes some minutes, so .ci/run leaves it out; with a
 * number, each so-many-th change alone is tried.
 */
public final class Mutants {
    private static final Path SOURCE = Path.of("src/main/java/LoopsToUnits.java");
    private static final String[] TESTS = {"EdgesOfTermsTest", "EdgesOfTextsTest", "EdgesOfChangesTest", "EdgesOfBoundsTest",
        "EdgesOfPlanTest", "EdgesOfPlayedTest", "EdgesOfUnitsTest", "EdgesOfKeptTest"};
    private static final Map<String, String> OTHERS = Map.ofEntries(Map.entry("<", "<="), Map.entry("<=", "<"), Map.entry(">", ">="),
            Map.entry(">=", ">"), Map.entry("==", "!="), Map.entry("!=", "=="), Map.entry("+", "-"), Map.entry("-", "+"),
            Map.entry("*", "+"), Map.entry("/", "*"), Map.entry("%", "/"), Map.entry("&&", "||"), Map.entry("||", "&&"),
            Map.entry("&", "|"), Map.entry("|", "&"), Map.entry("<<", ">>"), Map.entry(">>", "<<"), Map.entry(">>>", ">>"));
    private static final int SECONDS = 10;

    record Change(int from, int to, String text) {
    }

    private final String source;
    private final List<Change> changes = new ArrayList<>();

    private Mutants(String source) {
        this.source = source;
    }

    private final class Finder extends TreeScanner<Void, Void> {
        private final SourcePositions places;
        private final CompilationUnitTree unit;

        Finder(SourcePositions places, CompilationUnitTree unit) {
            this.places = places;
            this.unit = unit;
        }

        private int start(Tree t) {
            return (int) places.getStartPosition(unit, t);
        }

        private int stop(Tree t) {
            return (int) places.getEndPosition(unit, t);
        }

        private void put(Tree t, String text) {
            changes.add(new Change(start(t), stop(t), text));
        }

        private String words(Tree t) {
            return source.substring(start(t), stop(t));
        }

        @Override
        public Void visitBinary(BinaryTree t, Void v) {
            int from = stop(t.getLeftOperand());
            int to = start(t.getRightOperand());
            String between = source.substring(from, to);
            String sign = between.replaceAll("[\\s()]", "");
            if (OTHERS.containsKey(sign)) {
                int at = from + between.indexOf(sign);
                changes.add(new Change(at, at + sign.length(), OTHERS.get(sign)));
            }
            if (sign.equals("&&") || sign.equals("||")) {
                put(t, "(" + words(t.getLeftOperand()) + ")");
                put(t, "(" + words(t.getRightOperand()) + ")");
            }
            return super.visitBinary(t, v);
        }

        @Override
        public Void visitCompoundAssignment(CompoundAssignmentTree t, Void v) {
            put(t, words(t.getVariable()) + " = " + words(t.getExpression()));
            return super.visitCompoundAssignment(t, v);
        }

        @Override
        public Void visitUnary(UnaryTree t, Void v) {
            if (t.getKind() == Tree.Kind.UNARY_MINUS || t.getKind() == Tree.Kind.LOGICAL_COMPLEMENT) {
                put(t, "(" + words(t.getExpression()) + ")");
            }
            return super.visitUnary(t, v);
        }

        @Override
        public Void visitMethodInvocation(MethodInvocationTree t, Void v) {
            String called = words(t.getMethodSelect());
            if (t.getArguments().size() == 2 && (called.equals("Math.max") || called.equals("Math.min"))) {
                put(t, "(" + words(t.getArguments().get(0)) + ")");
                put(t, "(" + words(t.getArguments().get(1)) + ")");
            }
            if (t.getArguments().size() == 2 && !called.equals("Math.max") && !called.equals("Math.min")) {
                put(t, called + "(" + words(t.getArguments().get(1)) + ", " + words(t.getArguments().get(0)) + ")");
            }
            return super.visitMethodInvocation(t, v);
        }

        @Override
        public Void visitReturn(ReturnTree t, Void v) {
            if (t.getExpression() != null) {
                put(t.getExpression(), "(" + words(t.getExpression()) + ") + 1");
                put(t.getExpression(), "!(" + words(t.getExpression()) + ")");
            }
            return super.visitReturn(t, v);
        }

        @Override
        public Void visitCase(CaseTree t, Void v) {
            if (t.getStatements() != null && t.getStatements().isEmpty()) {
                put(t, "");
            }
            return super.visitCase(t, v);
        }

        /** By name the type, of what the method at hand is given or makes. */
        private final Map<String, String> locals = new TreeMap<>();

        @Override
        public Void visitMethod(MethodTree t, Void v) {
            locals.clear();
            new TreeScanner<Void, Void>() {
                @Override
                public Void visitVariable(VariableTree variable, Void none) {
                    locals.put(variable.getName().toString(), variable.getType().toString());
                    return super.visitVariable(variable, none);
                }
            }.scan(t, null);
            super.visitMethod(t, v);
            locals.clear();
            return null;
        }

        @Override
        public Void visitIdentifier(IdentifierTree t, Void v) {
            putNeighbours(t);
            String name = t.getName().toString();
            for (Map.Entry<String, String> other : locals.entrySet()) {
                if (other.getValue().equals(locals.get(name)) && !other.getKey().equals(name)) {
                    put(t, other.getKey());
                }
            }
            return super.visitIdentifier(t, v);
        }

        @Override
        public Void visitMemberSelect(MemberSelectTree t, Void v) {
            putNeighbours(t);
            return super.visitMemberSelect(t, v);
        }

        @Override
        public Void visitArrayAccess(ArrayAccessTree t, Void v) {
            putNeighbours(t);
            return super.visitArrayAccess(t, v);
        }

        /** What is no number, or is what is set, does not compile then, and counts as seen. */
        private void putNeighbours(Tree t) {
            if (start(t) >= 0 && stop(t) > start(t)) {
                put(t, "(" + words(t) + " + 1)");
                put(t, "(" + words(t) + " - 1)");
            }
        }

        @Override
        public Void visitBreak(BreakTree t, Void v) {
            put(t, ";");
            return super.visitBreak(t, v);
        }

        @Override
        public Void visitLiteral(LiteralTree t, Void v) {
            if (t.getValue() instanceof Integer) {
                int value = (Integer) t.getValue();
                changes.add(new Change(start(t), stop(t), "(" + (value + 1) + ")"));
                changes.add(new Change(start(t), stop(t), "(" + (value - 1) + ")"));
            } else if (t.getValue() instanceof Boolean) {
                changes.add(new Change(start(t), stop(t), Boolean.toString(!(Boolean) t.getValue())));
            }
            return super.visitLiteral(t, v);
        }

        @Override
        public Void visitIf(IfTree t, Void v) {
            int from = start(t.getCondition());
            int to = stop(t.getCondition());
            changes.add(new Change(from, to, "(!" + source.substring(from, to) + ")"));
            return super.visitIf(t, v);
        }

        @Override
        public Void visitConditionalExpression(ConditionalExpressionTree t, Void v) {
            changes.add(new Change(start(t.getCondition()), stop(t.getCondition()),
                    "!(" + source.substring(start(t.getCondition()), stop(t.getCondition())) + ")"));
            return super.visitConditionalExpression(t, v);
        }

        @Override
        public Void visitExpressionStatement(ExpressionStatementTree t, Void v) {
            changes.add(new Change(start(t), stop(t), ";"));
            return super.visitExpressionStatement(t, v);
        }
    }

    /** Compiled classes, in memory. */
    private static final class Memory extends ForwardingJavaFileManager<StandardJavaFileManager> {
        final Map<String, ByteArrayOutputStream> classes = new HashMap<>();

        Memory(StandardJavaFileManager files) {
            super(files);
        }

        @Override
        public JavaFileObject getJavaFileForOutput(Location where, String name, JavaFileObject.Kind kind, FileObject sibling) {
            return new SimpleJavaFileObject(URI.create("memory:///" + name + ".class"), kind) {
                @Override
                public OutputStream openOutputStream() {
                    ByteArrayOutputStream bytes = new ByteArrayOutputStream();
                    classes.put(name, bytes);
                    return bytes;
                }
            };
        }
    }

    /** Loads tests anew, with the changed program. */
    private static final class Loader extends ClassLoader {
        private final Map<String, ByteArrayOutputStream> changed;

        Loader(Map<String, ByteArrayOutputStream> changed) {
            super(Mutants.class.getClassLoader());
            this.changed = changed;
        }

        @Override
        protected Class<?> loadClass(String name, boolean resolve) throws ClassNotFoundException {
            Class<?> known = findLoadedClass(name);
            if (known != null) {
                return known;
            }
            if (name.contains(".")) {
                return super.loadClass(name, resolve);
            }
            try (InputStream in = getParent().getResourceAsStream(name + ".class")) {
                byte[] bytes = changed.containsKey(name) ? changed.get(name).toByteArray() : in.readAllBytes();
                return defineClass(name, bytes, 0, bytes.length);
            } catch (IOException e) {
                throw new ClassNotFoundException(name, e);
            }
        }
    }

    private static JavaFileObject text(String code) {
        return new SimpleJavaFileObject(URI.create("string:///LoopsToUnits.java"), JavaFileObject.Kind.SOURCE) {
            @Override
            public CharSequence getCharContent(boolean ignore) {
                return code;
            }
        };
    }

    private void find() throws IOException {
        JavaCompiler javac = ToolProvider.getSystemJavaCompiler();
        JavacTask task = (JavacTask) javac.getTask(null, null, null, null, null, List.of(text(source)));
        CompilationUnitTree unit = task.parse().iterator().next();
        new Finder(Trees.instance(task).getSourcePositions(), unit).scan(unit, null);
    }

    /** Whether a test saw the change (or it does not compile). */
    private static boolean isSeen(String code) throws Exception {
        JavaCompiler javac = ToolProvider.getSystemJavaCompiler();
        Memory memory = new Memory(javac.getStandardFileManager(d -> { }, null, null));
        if (!javac.getTask(null, memory, d -> { }, List.of("-nowarn"), null, List.of(text(code))).call()) {
            return true;
        }
        Loader loader = new Loader(memory.classes);
        for (String name : TESTS) {
            try {
                Method all = loader.loadClass(name).getDeclaredMethod("all");
                all.setAccessible(true);
                Object edges = all.invoke(null);
                Method faults = edges.getClass().getDeclaredMethod("faults");
                faults.setAccessible(true);
                if ((Integer) faults.invoke(edges) > 0) {
                    return true;
                }
            } catch (java.lang.reflect.InvocationTargetException e) {
                return true;
            }
        }
        return false;
    }

    private String told(Change c) {
        int line = (int) source.substring(0, c.from).chars().filter(s -> s == '\n').count() + 1;
        int from = source.lastIndexOf('\n', c.from) + 1;
        int to = source.indexOf('\n', c.to);
        return line + ": " + (source.substring(from, c.from) + " <<" + source.substring(c.from, c.to) + " -> " + c.text + ">> "
                + source.substring(c.to, to)).strip();
    }

    /** What told() says of a change that no test sees; null of one that a test sees, does not end by, or does not compile. */
    private String tried(Change c) throws InterruptedException {
        boolean[] unseen = {false};
        Thread one = new Thread(() -> {
            try {
                unseen[0] = !isSeen(source.substring(0, c.from) + c.text + source.substring(c.to));
            } catch (Exception e) {
                throw new IllegalStateException(e);
            }
        });
        one.setDaemon(true);
        one.start();
        one.join(SECONDS * 1000L);
        boolean ended = !one.isAlive();
        end(one);
        return ended && unseen[0] ? told(c) : null;
    }

    /** Changed programs that never end would take all the processors, in time. */
    @SuppressWarnings("deprecation")
    private static void end(Thread t) {
        if (t.isAlive()) {
            t.stop();
        }
    }

    private void run(int every) throws Exception {
        find();
        ExecutorService hands = Executors.newFixedThreadPool(Runtime.getRuntime().availableProcessors());
        List<Future<String>> told = new ArrayList<>();
        for (int i = 0; i < changes.size(); i += every) {
            Change c = changes.get(i);
            told.add(hands.submit(() -> tried(c)));
        }
        int unseen = 0;
        for (Future<String> one : told) {
            if (one.get() != null) {
                unseen++;
                System.out.println(one.get());
            }
        }
        System.out.println(told.size() + " changes, " + unseen + " of them unseen");
        System.exit(0);
    }

    public static void main(String[] args) throws Exception {
        int every = args.length > 0 ? Math.max(1, Integer.parseInt(args[0])) : 1;
        new Mutants(Files.readString(SOURCE)).run(every);
    }
}
