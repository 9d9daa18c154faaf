import java.io.IOException;
import java.nio.file.Files;
import java.nio.file.Path;
import java.util.ArrayList;
import java.util.List;

/** ../shared/DOC.md, so that a test can say which of its sentences it tests, and which have a test. */
final class Document {
    private static final Path PATH = Path.of("..", "shared", "DOC.md");
    private static final List<String> LINES = read();

    private Document() {
    }

    private static List<String> read() {
        try {
            return Files.readAllLines(PATH);
        } catch (IOException gone) {
            System.out.println("the document is not at " + PATH.toAbsolutePath());
            return List.of();
        }
    }

    /** Whether the words stand in the part whose heading begins with this title, like "Terms" or "Promise 6". */
    static boolean says(String title, String words) {
        return partOf(title).stream().anyMatch(line -> line.contains(words));
    }

    /** All rows "Throws .." of the promises, each behind its promise's title: "Promise 6: Throws ..". */
    static List<String> throwsRows() {
        List<String> rows = new ArrayList<>();
        String title = "";
        for (String line : LINES) {
            if (line.startsWith("## ")) {
                title = line.substring(3).split(":")[0];
            } else if (line.startsWith("Throws ")) {
                rows.add(title + ": " + line);
            }
        }
        return rows;
    }

    private static List<String> partOf(String title) {
        List<String> part = new ArrayList<>();
        boolean isInside = false;
        for (String line : LINES) {
            if (line.startsWith("## ")) {
                isInside = line.equals("## " + title) || line.startsWith("## " + title + ":");
            } else if (isInside) {
                part.add(line);
            }
        }
        return part;
    }
}
