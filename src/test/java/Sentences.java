import java.io.IOException;
import java.nio.file.Files;
import java.nio.file.Path;

/**
 * The sentences of one section of the document, each with a test of its own. Where the document is at hand,
 * the words are looked up in it, so that a test can't stand for a sentence that isn't there (any more).
 */
final class Sentences {
    private static final Path DOCUMENT = Path.of("..", "shared", "DOC.md");

    private final Check check;
    private final String title;
    private final String section;

    Sentences(Check check, String title) {
        this.check = check;
        this.title = title;
        this.section = sectionOf(title);
    }

    /** The whole document, or null if it isn't at hand. */
    private static String document() {
        try {
            return Files.exists(DOCUMENT) ? Files.readString(DOCUMENT) : null;
        } catch (IOException e) {
            return "";
        }
    }

    private static String sectionOf(String title) {
        String document = document();
        if (document == null) {
            return null;
        }
        String text = "\n" + document + "\n## ";
        int from = text.indexOf("\n## " + title + "\n");
        return from < 0 ? "" : text.substring(from, text.indexOf("\n## ", from + 1));
    }

    /** How many promises the document has, by its headings; 38 if it isn't at hand. */
    static int promises() {
        String document = document();
        return document == null ? 38 : document.split("\n## Promise \\d+: ", -1).length - 1;
    }

    Sentences says(String words, Runnable test) {
        check.about("");
        check.isTrue(title + " says: " + words, section == null || section.contains(words));
        check.about(title + ": " + words);
        test.run();
        check.about("");
        return this;
    }
}
