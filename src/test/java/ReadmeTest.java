import java.io.ByteArrayOutputStream;
import java.io.IOException;
import java.io.PrintStream;
import java.nio.charset.StandardCharsets;
import java.nio.file.Files;
import java.nio.file.Path;

/** README.md shows the example as it stands here, and what it prints. */
public final class ReadmeTest {
    private static final Check CHECK = new Check("ReadmeTest");

    public static void main(String[] args) throws IOException {
        String page = Files.readString(Path.of("README.md"));
        CHECK.same("the example", Files.readString(Path.of("src/test/java/Example.java")), block(page, "java"));
        CHECK.same("what it prints", printed(), block(page, "text"));
        CHECK.holds("how to run the tests", page.contains("`.ci/run`"));
        CHECK.end();
    }

    /** The only block of its kind. */
    private static String block(String page, String kind) {
        String[] parts = page.split("```" + kind + "\n");
        CHECK.same("blocks of " + kind, 2, parts.length);
        return parts.length < 2 ? "" : parts[1].split("```")[0];
    }

    private static String printed() {
        ByteArrayOutputStream bytes = new ByteArrayOutputStream();
        PrintStream before = System.out;
        System.setOut(new PrintStream(bytes, true, StandardCharsets.UTF_8));
        Example.main(new String[0]);
        System.setOut(before);
        return bytes.toString(StandardCharsets.UTF_8).replace(System.lineSeparator(), "\n");
    }
}
