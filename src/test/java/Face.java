import java.io.IOException;
import java.nio.file.Files;
import java.nio.file.Path;
import java.util.ArrayList;
import java.util.List;

/** The lines of "The public face" in the document. */
final class Face {
    private static final String FIRST = "public final class SlatCrates {";

    private Face() {
    }

    /** Constants, constructor and methods as they stand there; none if the document is not there. */
    static List<String> of(String document) throws IOException {
        List<String> members = new ArrayList<>();
        if (!Files.exists(Path.of(document))) {
            return members;
        }
        boolean inside = false;
        for (String line : Files.readAllLines(Path.of(document))) {
            inside = line.equals(FIRST) || inside && !line.equals("}");
            if (inside && !line.equals(FIRST)) {
                members.add(line.trim());
            }
        }
        return members;
    }
}
