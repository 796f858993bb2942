import java.io.IOException;
import java.nio.file.DirectoryStream;
import java.nio.file.Files;
import java.nio.file.Path;

/** Each of the document's 40 promises is named by a test of its edges: Check.by(its number, the sentence). */
public final class NamedTest {
    public static void main(String[] args) throws IOException {
        StringBuilder tests = new StringBuilder();
        try (DirectoryStream<Path> files = Files.newDirectoryStream(Path.of("src/test/java"), "Edge*Test.java")) {
            for (Path file : files) {
                tests.append(Files.readString(file));
            }
        }
        for (int promise = 1; promise <= 40; promise++) {
            Check.due("Promise " + promise + " is named", tests.indexOf("Check.by(" + promise + ", \"") >= 0, true);
        }
        Check.close("NamedTest");
    }
}
