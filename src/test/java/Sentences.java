import java.io.IOException;
import java.nio.file.Files;
import java.nio.file.Path;

/**
 * The sentences of one section of the document, each with a test of its own. Where the document is at hand,
 * the words are looked up in it, so that a test can't stand for a sentence that isn't there (any more).
 */
final class Sentences {
    private static final Path DOCUMENT = Path.of("..", "shared", "DOC.md");

    private final Check check;
    private final String title;
    private final String section;

    Sentences(Check check, String title) {
        this.check = check;
        this.title = title;
        this.section = sectionOf(title);
    }

    private static String sectionOf(String title) {
        if (!Files.exists(DOCUMENT)) {
            return null;
        }
        try {
            String text = "\n" + Files.readString(DOCUMENT) + "\n## ";
            int from = text.indexOf("\n## " + title + "\n");
            return from < 0 ? "" : text.substring(from, text.indexOf("\n## ", from + 1));
        } catch (IOException e) {
            return "";
        }
    }

    Sentences says(String words, Runnable test) {
        check.about("");
        check.isTrue(title + " says: " + words, section == null || section.contains(words));
        check.about(title + ": " + words);
        test.run();
        check.about("");
        return this;
    }
}
