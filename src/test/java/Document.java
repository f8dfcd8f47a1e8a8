import java.io.IOException;
import java.nio.file.Files;
import java.nio.file.Path;
import java.util.List;

/** The document itself, for tests that hold something to its very words. */
final class Document {
    private Document() {
    }

    static List<String> lines() throws IOException {
        return Files.readAllLines(Path.of("../shared/DOC.md"));
    }
}
