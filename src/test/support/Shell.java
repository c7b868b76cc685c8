import java.io.IOException;
import java.io.InputStream;
import java.nio.charset.StandardCharsets;
import java.nio.file.Files;
import java.nio.file.Path;
import java.util.List;
import java.util.stream.Collectors;
import java.util.stream.Stream;

/** Runs commands in a directory, and makes directories for that. */
final class Shell {
    /** How a command ended, and all that it printed. */
    record Ended(int code, String printed) {
    }

    private Shell() {
    }

    static Ended run(Path directory, String... command) throws IOException, InterruptedException {
        Process process = new ProcessBuilder(command).directory(directory.toFile()).redirectErrorStream(true).start();
        process.getOutputStream().close();
        try (InputStream out = process.getInputStream()) {
            String printed = new String(out.readAllBytes(), StandardCharsets.UTF_8);
            return new Ended(process.waitFor(), printed);
        }
    }

    static void write(Path file, String text) throws IOException {
        Files.createDirectories(file.getParent());
        Files.writeString(file, text);
    }

    static void copy(Path from, Path to) throws IOException {
        Files.createDirectories(to.getParent());
        Files.copy(from, to, java.nio.file.StandardCopyOption.COPY_ATTRIBUTES);
    }

    static void delete(Path directory) throws IOException {
        List<Path> files;
        try (Stream<Path> found = Files.walk(directory)) {
            files = found.sorted(java.util.Comparator.reverseOrder()).collect(Collectors.toList());
        }
        for (Path file : files) {
            Files.delete(file);
        }
    }
}
