import java.io.IOException;
import java.nio.charset.StandardCharsets;
import java.nio.file.Files;
import java.nio.file.Path;
import java.util.function.Consumer;

/** Sentences of the document that name an edge, each with the test that would fail if it were broken. */
final class Sentences {
    private static final Path DOCUMENT = Path.of("..", "shared", "DOC.md");

    private final Due due = new Due();
    private final String document;

    /** Where the document is not at hand the sentences are taken as they stand here. */
    Sentences() throws IOException {
        document = Files.exists(DOCUMENT) ? onOneLine(Files.readString(DOCUMENT, StandardCharsets.UTF_8)) : null;
    }

    void says(String sentence, Consumer<Due> test) {
        due.about(sentence);
        due.holds("the document says so", document == null || document.contains(onOneLine(sentence)));
        test.accept(due);
    }

    void finish() {
        due.finish();
    }

    private static String onOneLine(String text) {
        return text.replaceAll("\\s+", " ");
    }
}
