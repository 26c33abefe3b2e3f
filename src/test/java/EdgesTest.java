import java.util.Set;

/**
 * Each sentence of the document that says what a call does or names a boundary case has a test of
 * its own: the tests run, and then the sentences that they quoted are compared with the document,
 * both ways.
 */
final class EdgesTest {
    /** Sentences of the terms that say nothing that a call could break. */
    private static final Set<String> WITHOUT_EDGES = Set.of(
            "Its calls are those of somebody who runs a sugar house: tubes and tanks are added,"
                    + " hours pass with a temperature, sap is moved and boiled, and all other calls"
                    + " are readings.");

    public static void main(String[] args) {
        TubesEdges.run();
        HoursEdges.run();
        TanksEdges.run();
        PanEdges.run();
        AccountsEdges.run();
        Purposes.run();
        Document document = Document.read();
        Check.due("promises in the document", document.promises(), 42);
        everyQuotationIsTrue(document);
        everySentenceIsQuoted(document);
        Check.end("EdgesTest");
    }

    private static void everyQuotationIsTrue(Document document) {
        for (Edges.Quotation quoted : Edges.QUOTED) {
            boolean said = document.says(quoted.promise(), quoted.sentence());
            Check.due("the document says in " + quoted, said, true);
        }
    }

    private static void everySentenceIsQuoted(Document document) {
        for (String sentence : document.terms()) {
            if (!WITHOUT_EDGES.contains(sentence)) {
                isQuoted(Edges.TERMS, sentence);
            }
        }
        for (int promise = 1; promise <= document.promises(); promise++) {
            isQuoted(promise, document.purpose(promise));
            for (String sentence : document.edges(promise)) {
                isQuoted(promise, sentence);
            }
        }
    }

    private static void isQuoted(int promise, String sentence) {
        Edges.Quotation due = new Edges.Quotation(promise, sentence);
        Check.due("a test quotes " + due, Edges.QUOTED.contains(due), true);
    }
}
