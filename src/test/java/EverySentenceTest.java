import java.io.OutputStream;
import java.io.PrintStream;
import java.util.ArrayList;
import java.util.List;

/** No sentence of the document is without a test: runs all tests that quote it, and looks what none has quoted. */
public final class EverySentenceTest {
    private static final Checks CHECKS = new Checks("EverySentenceTest");

    /** Headings, and what only tells what the document is about. */
    private static final List<String> PROMISE_NOTHING = List.of("What it is: ", "Not promised: ", "Terms: Its calls:",
        "Terms: areas are told,", "Terms: heat drifts,", "Terms: bases follow,", "Terms: gestures race",
        "Terms: One asks what", "Terms: 1 CELLS:", "Terms: Its PLACE (PX, PY):", "Terms: 2 To take a FRAME:",
        "Terms: (5) Claims:", "Terms: (6) BASES:", "Terms: 3 AREAS:");

    public static void main(String[] args) {
        PrintStream out = System.out;
        // each of these is run on its own, too, and tells there what is wrong
        System.setOut(new PrintStream(OutputStream.nullOutputStream()));
        FaceTest.main(args);
        PlainSentencesTest.main(args);
        EdgesOfCellsTest.main(args);
        EdgesOfPeaksTest.main(args);
        EdgesOfFramesTest.main(args);
        EdgesOfClaimsTest.main(args);
        EdgesOfBasesTest.main(args);
        EdgesOfForecastsTest.main(args);
        RefusalsTest.main(args);
        System.setOut(out);
        for (String promisesNothing : PROMISE_NOTHING) {
            CHECKS.isTrue("the document still has " + promisesNothing,
                Document.unquoted().stream().anyMatch(piece -> piece.startsWith(promisesNothing)));
        }
        List<String> untested = new ArrayList<>(Document.unquoted());
        untested.removeIf(EverySentenceTest::promisesNothing);
        CHECKS.same("what no test quotes", String.join("\n", untested), "");
        CHECKS.end();
    }

    private static boolean promisesNothing(String piece) {
        boolean isCodesEnd = piece.contains("```") || piece.endsWith(": }");
        boolean namesAnArgument = piece.matches("Promise \\d+: - `\\w+`:");
        return isCodesEnd || namesAnArgument || PROMISE_NOTHING.stream().anyMatch(piece::startsWith);
    }
}
