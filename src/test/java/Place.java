import java.io.IOException;
import java.nio.file.Files;
import java.nio.file.Path;
import java.util.Comparator;
import java.util.List;
import java.util.stream.Stream;

/** A directory of its own, in which files are written and commands are run. */
final class Place implements AutoCloseable {
    private final Path root = Files.createTempDirectory("place");
    private int code = 0;

    Place() throws IOException {
    }

    void write(String name, String text) throws IOException {
        Path file = root.resolve(name);
        Files.createDirectories(file.getParent());
        Files.writeString(file, text);
    }

    void copy(String from, String name) throws IOException {
        write(name, Files.readString(Path.of(from)));
    }

    /** What the commands print, run in that directory; the first that fails is the last one. */
    String run(String directory, String commands) throws IOException, InterruptedException {
        ProcessBuilder shell = new ProcessBuilder(List.of("bash", "-e", "-c", commands));
        shell.directory(root.resolve(directory).toFile());
        shell.redirectError(ProcessBuilder.Redirect.DISCARD);
        Process process = shell.start();
        process.getOutputStream().close();
        String printed = new String(process.getInputStream().readAllBytes());
        code = process.waitFor();
        return printed;
    }

    int code() {
        return code;
    }

    @Override
    public void close() throws IOException {
        try (Stream<Path> all = Files.walk(root)) {
            for (Path path : all.sorted(Comparator.reverseOrder()).toList()) {
                Files.delete(path);
            }
        }
    }
}
