import java.io.IOException;
import java.nio.file.Files;
import java.nio.file.Path;
import java.util.ArrayList;
import java.util.List;
import java.util.regex.Matcher;
import java.util.regex.Pattern;

/** ../shared/DOC.md, so that a test can say which of its sentences it tests, and which have a test. */
final class Document {
    private static final Path PATH = Path.of("..", "shared", "DOC.md");
    private static final List<String> LINES = read();

    /** Between two pieces of a line: behind what ends a sentence or a part of it, and ahead of a number of a list. */
    private static final Pattern BETWEEN = Pattern.compile("(?<=[;:.]) |(?<=,) (?=\\d )|$");

    /** What was quoted since this program began: a title, and words behind it. */
    private static final List<String[]> QUOTED = new ArrayList<>();

    private Document() {
    }

    private static List<String> read() {
        try {
            return Files.readAllLines(PATH);
        } catch (IOException gone) {
            System.out.println("the document is not at " + PATH.toAbsolutePath());
            return List.of();
        }
    }

    /** Whether the words stand in the part whose heading begins with this title, like "Terms" or "Promise 6". */
    static boolean says(String title, String words) {
        QUOTED.add(new String[] {title, words});
        return partOf(title).stream().anyMatch(line -> line.contains(words));
    }

    /** All rows "Throws .." of the promises, each behind its promise's title: "Promise 6: Throws ..". */
    static List<String> throwsRows() {
        List<String> rows = new ArrayList<>();
        for (String title : titles()) {
            partOf(title).stream().filter(line -> line.startsWith("Throws ")).forEach(
                line -> rows.add(title + ": " + line));
        }
        return rows;
    }

    /** Behind their parts' titles, the pieces of sentences of which no word was quoted since this program began. */
    static List<String> unquoted() {
        List<String> pieces = new ArrayList<>();
        for (String title : titles()) {
            for (String line : partOf(title)) {
                Matcher between = BETWEEN.matcher(line);
                for (int start = startOf(line); start < line.length() && between.find(start); start = between.end()) {
                    if (!isQuoted(title, line, start, between.start())) {
                        pieces.add(title + ": " + line.substring(start, between.start()));
                    }
                }
            }
        }
        return pieces;
    }

    /** What is sunk in a line, and a method's header ahead of what is said of it, are no pieces. */
    private static int startOf(String line) {
        if (line.startsWith("`") && line.contains("`: ")) {
            return line.indexOf("`: ") + 3;
        }
        return line.length() - line.stripLeading().length();
    }

    private static boolean isQuoted(String title, String line, int start, int end) {
        for (String[] quote : QUOTED) {
            int at = quote[0].equals(title) ? line.indexOf(quote[1]) : -1;
            while (at >= 0) {
                if (at < end && at + quote[1].length() > start) {
                    return true;
                }
                at = line.indexOf(quote[1], at + 1);
            }
        }
        return false;
    }

    /** The titles of all parts, of a promise without its name: "Promise 6". */
    private static List<String> titles() {
        List<String> titles = new ArrayList<>();
        for (String line : LINES) {
            if (line.startsWith("## ")) {
                titles.add(line.substring(3).split(":")[0]);
            }
        }
        return titles;
    }

    static List<String> partOf(String title) {
        List<String> part = new ArrayList<>();
        boolean isInside = false;
        for (String line : LINES) {
            if (line.startsWith("## ")) {
                isInside = line.equals("## " + title) || line.startsWith("## " + title + ":");
            } else if (isInside) {
                part.add(line);
            }
        }
        return part;
    }
}
