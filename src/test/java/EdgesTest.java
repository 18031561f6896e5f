import java.io.IOException;
import java.nio.file.Path;

/**
 * Each sentence of the document has a test of its own: the edge tests, and the count of those sentences that no test has
 * quoted. The document's path is the second argument.
 */
final class EdgesTest {
    public static void main(String[] args) throws IOException, IllegalAccessException {
        Doc doc = new Doc(Path.of(args[1]));
        Class<?>[] edges = {TermsEdges.class, SchemasEdges.class, MessagesEdges.class, ContentsEdges.class, TapeEdges.class};
        for (Class<?> each : edges) {
            Edges.runAll(each, doc);
        }
        for (int promise = 1; promise <= 33; promise++) {
            Edges.CHECKS.due("the sentences of promise " + promise, doc.sentencesIn("Promise " + promise).isEmpty(), false);
        }
        for (String section : doc.sections()) {
            for (String sentence : doc.sentencesIn(section)) {
                if (isPromised(section, sentence)) {
                    Edges.CHECKS.due(section + ": a test for \"" + sentence + "\"", doc.isQuoted(section, sentence), true);
                }
            }
        }
        Edges.CHECKS.end();
    }

    /** Not the headings of paragraphs, what goes ahead of the calls, and what the document leaves free. */
    private static boolean isPromised(String section, String sentence) {
        boolean isHeading = sentence.matches("\\w+\\.");
        boolean isFree = sentence.equals("what later calls answer is free.");
        return (section.equals("What it is") || section.equals("Terms") || section.startsWith("Promise"))
            && !isHeading && !isFree && !sentence.startsWith("Ahead of the calls");
    }
}
