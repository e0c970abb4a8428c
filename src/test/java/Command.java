import java.io.IOException;
import java.nio.charset.StandardCharsets;
import java.nio.file.Files;
import java.nio.file.Path;
import java.util.Comparator;
import java.util.stream.Stream;

/** A command of the system that has ended, with its exit code and what it printed. */
final class Command {
    final int exitCode;
    final String output;

    private Command(int exitCode, String output) {
        this.exitCode = exitCode;
        this.output = output;
    }

    static Command run(Path folder, String... words) throws IOException, InterruptedException {
        Process process = new ProcessBuilder(words).directory(folder.toFile()).redirectErrorStream(true).start();
        process.getOutputStream().close();
        String output = new String(process.getInputStream().readAllBytes(), StandardCharsets.UTF_8);
        return new Command(process.waitFor(), output);
    }

    static void deleteFolder(Path folder) throws IOException {
        try (Stream<Path> paths = Files.walk(folder)) {
            for (Path path : (Iterable<Path>) paths.sorted(Comparator.reverseOrder())::iterator) {
                Files.delete(path);
            }
        }
    }
}
