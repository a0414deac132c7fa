import java.io.IOException;
import java.nio.file.Files;
import java.nio.file.Path;
import java.util.ArrayList;
import java.util.List;
import java.util.concurrent.ExecutorService;
import java.util.concurrent.Executors;
import java.util.concurrent.Future;

/** .ci/run, copied beside a small program and small tests: it passes if all do, and fails if one does. */
public final class CiTest {
    private static final Path SCRIPT = Path.of(".ci/run").toAbsolutePath();
    private static final String CLASS = "src/main/java/LoopsToUnits.java";
    private static final String WHOLE = "public final class LoopsToUnits { }";

    private final Path home;
    private final Path checkout;
    private final List<String> faults;
    private final String name;

    private CiTest(String name, List<String> faults) throws IOException {
        this.name = name;
        this.faults = faults;
        home = Files.createTempDirectory("ci");
        checkout = home.resolve("checkout");
        Shell.copy(SCRIPT, checkout.resolve(".ci/run"));
        has(CLASS, WHOLE);
        has("src/test/java/OwnTest.java", test("OwnTest", "System.exit(0)"));
        has("../shared/tests/Given.java", test("Given", "System.exit(0)"));
    }

    private static String test(String name, String does) {
        return "public final class " + name + " { public static void main(String[] a) { new LoopsToUnits(); "
                + "System.out.println(\"" + name + " ran\"); " + does + "; } }";
    }

    private CiTest has(String file, String text) throws IOException {
        Shell.write(checkout.resolve(file).normalize(), text);
        return this;
    }

    private CiTest hasNot(String file) throws IOException {
        Files.delete(checkout.resolve(file).normalize());
        return this;
    }

    /** Runs it from a folder that is not the checkout: it finds its way by itself. */
    private void ends(boolean passes, String... prints) throws IOException, InterruptedException {
        Shell.Ended ended = Shell.run(home, List.of(checkout.resolve(".ci/run").toString()));
        synchronized (faults) {
            if (ended.code() == 0 != passes) {
                faults.add(name + ": it ends with " + ended.code() + "\n" + ended.printed());
            }
            for (String words : prints) {
                if (!ended.printed().contains(words)) {
                    faults.add(name + ": it does not print '" + words + "'\n" + ended.printed());
                }
            }
        }
        Shell.remove(home);
    }

    private interface Case {
        void run(List<String> faults) throws IOException, InterruptedException;
    }

    private static final List<Case> CASES = List.of(
        f -> new CiTest("all pass", f).ends(true, "OwnTest ran", "Given ran", "2 passed, 0 failed"),
        f -> new CiTest("an own test fails", f).has("src/test/java/BadTest.java", test("BadTest", "System.exit(1)"))
                .ends(false, "OwnTest ran", "Given ran", "2 passed, 1 failed"),
        f -> new CiTest("an own test throws", f)
                .has("src/test/java/BadTest.java", test("BadTest", "throw new IllegalStateException()"))
                .ends(false, "OwnTest ran", "Given ran", "2 passed, 1 failed"),
        f -> new CiTest("an own test does not compile", f).has("src/test/java/BadTest.java", "class BadTest {").ends(false),
        f -> new CiTest("a given test fails", f).has("../shared/tests/Also.java", test("Also", "System.exit(1)"))
                .ends(false, "OwnTest ran", "Given ran", "2 passed, 1 failed"),
        f -> new CiTest("a given test does not compile", f).has("../shared/tests/Also.java", "class Also {")
                .ends(false, "OwnTest ran", "Given ran", "2 passed, 1 failed"),
        f -> new CiTest("no given test", f).hasNot("../shared/tests/Given.java").ends(false, "OwnTest ran"),
        f -> new CiTest("no own test", f).hasNot("src/test/java/OwnTest.java").ends(false),
        f -> new CiTest("no class", f).hasNot(CLASS).ends(false),
        f -> new CiTest("the class does not compile", f).has(CLASS, WHOLE + " }").ends(false),
        f -> new CiTest("javac warns of the class", f)
                .has(CLASS, "public final class LoopsToUnits { java.util.List unsaid; }").ends(false));

    public static void main(String[] args) throws Exception {
        List<String> faults = new ArrayList<>();
        if (!Files.isExecutable(SCRIPT)) {
            faults.add(".ci/run can't be run");
        }
        ExecutorService hands = Executors.newFixedThreadPool(4);
        List<Future<?>> begun = new ArrayList<>();
        for (Case one : CASES) {
            begun.add(hands.submit(() -> {
                one.run(faults);
                return null;
            }));
        }
        for (Future<?> one : begun) {
            one.get();
        }
        hands.shutdown();
        faults.forEach(System.out::println);
        System.out.println(CASES.size() + " cases, " + faults.size() + " faults");
        System.exit(faults.isEmpty() ? 0 : 1);
    }
}
