import java.io.IOException;
import java.io.UncheckedIOException;
import java.nio.charset.StandardCharsets;
import java.nio.file.Files;
import java.nio.file.Path;
import java.util.Comparator;
import java.util.List;
import java.util.stream.Stream;

/** A directory for a while, with files that a test puts there and commands that it runs there. */
final class Sandbox implements AutoCloseable {
    final Path directory;
    /** What the latest command printed, errors too, and what it ended with. */
    String printed = "";
    int ended = -1;

    Sandbox() {
        try {
            directory = Files.createTempDirectory("biteyears");
        } catch (IOException e) {
            throw new UncheckedIOException(e);
        }
    }

    Sandbox put(String file, String text) throws IOException {
        Path path = directory.resolve(file);
        Files.createDirectories(path.getParent());
        Files.writeString(path, text);
        return this;
    }

    /** The file at this path of the project, at the same path below the sandbox's own directory. */
    Sandbox copy(Path file, String below) throws IOException {
        Path path = directory.resolve(below).resolve(file);
        Files.createDirectories(path.getParent());
        Files.copy(file, path, java.nio.file.StandardCopyOption.COPY_ATTRIBUTES);
        return this;
    }

    void run(String below, String... command) throws IOException, InterruptedException {
        Process process = new ProcessBuilder(List.of(command)).directory(directory.resolve(below).toFile()).redirectErrorStream(true).start();
        process.getOutputStream().close();
        printed = new String(process.getInputStream().readAllBytes(), StandardCharsets.UTF_8);
        ended = process.waitFor();
    }

    String lastLine() {
        String[] lines = printed.split("\n");
        return lines[lines.length - 1];
    }

    @Override
    public void close() throws IOException {
        try (Stream<Path> all = Files.walk(directory)) {
            for (Path path : all.sorted(Comparator.reverseOrder()).toList()) {
                Files.delete(path);
            }
        }
    }
}
