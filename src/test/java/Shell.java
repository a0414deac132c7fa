import java.io.IOException;
import java.nio.file.Files;
import java.nio.file.Path;
import java.util.Comparator;
import java.util.List;
import java.util.stream.Stream;

/** Commands, and folders of their own for them. */
final class Shell {
    /** How a command ended, and what it printed. */
    record Ended(int code, String printed) {
    }

    private Shell() {
    }

    static Ended run(Path folder, List<String> command) throws IOException, InterruptedException {
        Process process = new ProcessBuilder(command).directory(folder.toFile()).redirectErrorStream(true).start();
        process.getOutputStream().close();
        String printed = new String(process.getInputStream().readAllBytes());
        return new Ended(process.waitFor(), printed);
    }

    static void write(Path file, String text) throws IOException {
        Files.createDirectories(file.getParent());
        Files.writeString(file, text);
    }

    /** A file, or a folder with all that is in it. */
    static void copy(Path from, Path to) throws IOException {
        try (Stream<Path> all = Files.walk(from)) {
            for (Path file : (Iterable<Path>) all::iterator) {
                Path copied = to.resolve(from.relativize(file).toString());
                if (Files.isDirectory(file)) {
                    Files.createDirectories(copied);
                } else {
                    Files.createDirectories(copied.getParent());
                    Files.copy(file, copied, java.nio.file.StandardCopyOption.COPY_ATTRIBUTES);
                }
            }
        }
    }

    static void remove(Path folder) throws IOException {
        try (Stream<Path> all = Files.walk(folder)) {
            for (Path file : (Iterable<Path>) all.sorted(Comparator.reverseOrder())::iterator) {
                Files.delete(file);
            }
        }
    }
}
