import java.io.IOException;
import java.nio.file.Files;
import java.nio.file.Path;

/** Where the project stands: .ci/run tells it, since tests are run from anywhere. */
final class Home {
    private Home() {
    }

    static Path at(String path) {
        String home = System.getenv("LIARS_ANSWERS_HOME");
        return Path.of(home == null ? "." : home, path);
    }

    static String read(String path) throws IOException {
        return Files.readString(at(path));
    }
}
