import java.io.IOException;
import java.nio.charset.StandardCharsets;
import java.nio.file.Files;
import java.nio.file.Path;

/** The document, gone through from a heading on: each sentence is named in its turn, and none is passed over. */
final class Document {
    private static final Path FILE = Path.of("../shared/DOC.md");
    /** Without the file the answers are compared still, but no words. */
    static final boolean IS_THERE = Files.isReadable(FILE);

    private final String text;
    private int position = 0;

    /** What stands from the line that begins with one heading to the line that begins with another. */
    Document(String from, String to) {
        String whole = read();
        int start = whole.indexOf("\n" + from);
        int end = whole.indexOf("\n" + to);
        if (IS_THERE) {
            Due.due("the document has " + from + " and " + to, start >= 0 && end > start ? 1 : 0, 1);
        } else {
            System.out.println("no " + FILE + ": its words are not compared");
        }
        text = start >= 0 && end > start ? sentences(whole.substring(start, end)) : "";
    }

    private static String read() {
        try {
            return Files.readString(FILE, StandardCharsets.UTF_8);
        } catch (IOException missing) {
            return "";
        }
    }

    /** The text without headings, the block of code, and the lines that only say how the interface is parted. */
    private static String sentences(String part) {
        StringBuilder kept = new StringBuilder();
        boolean code = false;
        for (String line : part.split("\n")) {
            if (line.startsWith("```")) {
                code = !code;
            } else if (!code && !line.startsWith("#") && !line.startsWith("Ahead of the calls") && !line.matches("[A-Z', ]*")) {
                kept.append(line.strip()).append(' ');
            }
        }
        return kept.toString().replaceAll("\\s+", " ");
    }

    /** The block of code in the document: the public face. */
    static String face() {
        String whole = read();
        int start = whole.indexOf("```java");
        int end = whole.indexOf("```", start + 3);
        return start >= 0 && end > start ? whole.substring(start, end) : "";
    }

    /** Names the next words of the document; the answers that follow are about them. */
    void says(String words) {
        Due.about(words);
        if (!IS_THERE) {
            return;
        }
        int at = text.indexOf(words, position);
        Due.due("the document says so, here or later", at >= 0 ? 1 : 0, 1);
        if (at >= 0) {
            nothingStandsIn(text.substring(position, at));
            position = at + words.length();
        }
    }

    /** That the last words have been named. */
    void isReadToItsEnd() {
        Due.about("the end");
        nothingStandsIn(text.substring(position));
    }

    private static void nothingStandsIn(String words) {
        boolean empty = !words.matches(".*[A-Za-z0-9].*");
        Due.due(empty ? "nothing" : "passed over: " + words, empty ? 1 : 0, 1);
    }
}
