import java.io.IOException;
import java.nio.file.Files;
import java.nio.file.Path;
import java.util.ArrayList;
import java.util.List;
import java.util.Map;
import java.util.regex.Matcher;
import java.util.regex.Pattern;
import java.util.stream.Stream;

/** README.md: its examples answer what stands behind them, its commands run, and its table names every test. */
public final class ReadmeTest {
    private static final Path README = Path.of("README.md");
    private static final Path TESTS = Path.of("src/test/java");
    /** It is what runs this test; CiTest looks at it. */
    private static final String WHOLE_RUN = "bash .ci/run";
    private static final Map<String, String> PRINTED = Map.of("PromisesTest", " passed, 0 failed", "OracleTest", "2000 passed, 0 failed",
            "Mutants", " changes, ");
    private static final Pattern CALL = Pattern.compile("(x\\.\\w+\\(.*?\\));\\s*// (-?\\d+|true|false|throws \\w+)\\b.*");
    private static final Pattern ROW_OF_TABLE = Pattern.compile("\\| `(\\w+(\\.\\.\\w+)?)` \\|.*");
    private static final String FRAME = """
            public final class Examples {
                private static int wrong = 0;
                private static void due(String call, java.util.function.Supplier<Object> asked, String want) {
                    String got;
                    try {
                        got = String.valueOf(asked.get());
                    } catch (RuntimeException e) {
                        got = "throws " + e.getClass().getSimpleName();
                    }
                    if (!got.equals(want)) {
                        wrong++;
                        System.out.println(call + " answered " + got + ", README.md says " + want);
                    }
                }
            """;

    private final List<String> faults = new ArrayList<>();
    private final List<String> lines;
    private int calls = 0;
    private int commands = 0;

    private ReadmeTest(List<String> lines) {
        this.lines = lines;
    }

    private List<List<String>> examples() {
        List<List<String>> all = new ArrayList<>();
        boolean inside = false;
        for (String line : lines) {
            if (line.startsWith("```")) {
                inside = line.equals("```java");
                if (inside) {
                    all.add(new ArrayList<>());
                }
            } else if (inside) {
                all.get(all.size() - 1).add(line);
            }
        }
        return all;
    }

    /** A call of an example as a check of its answer. */
    private String checked(String line) {
        Matcher call = CALL.matcher(line);
        if (call.matches()) {
            calls++;
            return "due(\"" + call.group(1) + "\", () -> " + call.group(1) + ", \"" + call.group(2) + "\");";
        }
        if (line.startsWith("x.")) {
            faults.add("no answer stands behind " + line);
        }
        return line;
    }

    private String program() {
        StringBuilder members = new StringBuilder(FRAME);
        StringBuilder main = new StringBuilder();
        for (List<String> example : examples()) {
            if (example.get(0).startsWith("static")) {
                members.append(String.join("\n", example)).append('\n');
            } else {
                main.append("{\n");
                example.forEach(line -> main.append(checked(line)).append('\n'));
                main.append("}\n");
            }
        }
        return members + "public static void main(String[] args) {\n" + main + "System.exit(wrong == 0 ? 0 : 1);\n}\n}\n";
    }

    /** A checkout of its own, with ../shared beside it, so that commands leave nothing in this one. */
    private static Path checkout(Path home) throws IOException {
        Path checkout = home.resolve("checkout");
        Shell.copy(Path.of("src"), checkout.resolve("src"));
        Files.createSymbolicLink(home.resolve("shared"), Path.of("../shared").toAbsolutePath().normalize());
        return checkout;
    }

    private void runs(Path folder, String command) throws IOException, InterruptedException {
        Shell.Ended ended = Shell.run(folder, List.of("bash", "-c", command));
        if (ended.code() != 0) {
            faults.add("'" + command + "' ends with " + ended.code() + "\n" + ended.printed());
        }
        PRINTED.forEach((name, words) -> {
            if (command.contains(" " + name) && !ended.printed().contains(words)) {
                faults.add("'" + command + "' prints\n" + ended.printed());
            }
        });
    }

    private void checkExamples(Path checkout) throws IOException, InterruptedException {
        Shell.write(checkout.resolve("Examples.java"), program());
        runs(checkout, "javac -d examples src/main/java/LoopsToUnits.java Examples.java && java -cp examples Examples");
    }

    private void checkCommands(Path checkout) throws IOException, InterruptedException {
        boolean fenced = false;
        boolean whole = false;
        for (String line : lines) {
            fenced ^= line.startsWith("```");
            if (!fenced && line.startsWith("    ")) {
                commands++;
                if (line.strip().equals(WHOLE_RUN)) {
                    whole = true;
                } else {
                    runs(checkout, line.strip());
                }
            }
        }
        if (!whole) {
            faults.add("README.md does not name " + WHOLE_RUN);
        }
    }

    private void checkTable() throws IOException {
        List<String> rows = new ArrayList<>();
        for (String line : lines) {
            Matcher row = ROW_OF_TABLE.matcher(line);
            if (row.matches()) {
                rows.add(row.group(1).replace("..", "\\w+"));
            }
        }
        List<String> tests;
        try (Stream<Path> files = Files.list(TESTS)) {
            tests = files.map(f -> f.getFileName().toString().replace(".java", "")).filter(n -> n.endsWith("Test")).toList();
        }
        for (String row : rows) {
            if (tests.stream().noneMatch(t -> t.matches(row))) {
                faults.add("there is no test " + row);
            }
        }
        for (String test : tests) {
            if (rows.stream().filter(test::matches).count() != 1) {
                faults.add("the table does not name " + test + " once");
            }
        }
    }

    public static void main(String[] args) throws Exception {
        ReadmeTest test = new ReadmeTest(Files.readAllLines(README));
        Path home = Files.createTempDirectory("readme");
        Path checkout = checkout(home);
        test.checkExamples(checkout);
        test.checkCommands(checkout);
        test.checkTable();
        Shell.remove(home);
        test.faults.forEach(System.out::println);
        System.out.println(test.calls + " calls and " + test.commands + " commands, " + test.faults.size() + " faults");
        System.exit(test.faults.isEmpty() && test.calls > 0 && test.commands > 0 ? 0 : 1);
    }
}
