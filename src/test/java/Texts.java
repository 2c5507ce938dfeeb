import java.io.IOException;
import java.io.UncheckedIOException;
import java.nio.file.Files;
import java.nio.file.Path;

/** The project's files that tests read; they are found from the project's top folder. */
final class Texts {
    static final String PROGRAM = "src/main/java/TalkRebuilder.java";
    static final String README = "README.md";

    private Texts() {
    }

    static String read(String path) {
        try {
            return Files.readString(Path.of(path));
        } catch (IOException unread) {
            throw new UncheckedIOException(unread);
        }
    }
}
