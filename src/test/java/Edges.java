import java.io.IOException;
import java.nio.file.Files;
import java.nio.file.Path;
import java.util.ArrayList;
import java.util.List;
import java.util.Set;
import java.util.TreeSet;
import java.util.function.Consumer;

/**
 * Tests of single sentences of the document. Each is named by the words that it looks at, which must stand in that
 * promise of the document, and begins with an object of its own.
 */
final class Edges {
    private static final Path DOC = Path.of("../shared/DOC.md");
    private static final int TERMS = 0;

    private final List<String> faults = new ArrayList<>();
    private final Set<Integer> promises = new TreeSet<>();
    private final String[] sections = sections();
    private int promise = TERMS;
    private int edges = 0;

    /** The document's words by promise, the terms first; none where the document is not at hand. */
    private static String[] sections() {
        if (!Files.isReadable(DOC)) {
            return new String[0];
        }
        try {
            String whole = Files.readString(DOC).replaceAll("\\s+", " ");
            String terms = whole.substring(whole.indexOf("## Terms"));
            return terms.split("## (Promise|Not promised)");
        } catch (IOException e) {
            return new String[0];
        }
    }

    void promise(int number) {
        promise = number;
        promises.add(number);
    }

    /** One sentence, or the part of it that names the boundary case. */
    void edge(String words, Consumer<Probe> look) {
        edges++;
        String name = "promise " + promise + ", \"" + words + "\"";
        if (sections.length > promise && !sections[promise].contains(words)) {
            faults.add(name + ": the document does not say so");
        }
        look.accept(new Probe(name, faults));
    }

    int faults() {
        return faults.size();
    }

    /** Prints what was wrong, and ends the program. */
    void end(int first, int last) {
        for (int i = first; i <= last; i++) {
            if (!promises.contains(i)) {
                faults.add("promise " + i + " has no test");
            }
        }
        faults.forEach(System.out::println);
        System.out.println(edges + " sentences, " + faults.size() + " faults");
        System.exit(faults.isEmpty() && edges > 0 ? 0 : 1);
    }
}
