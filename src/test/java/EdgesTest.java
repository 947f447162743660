/**
 * All boundary cases that the document names, each sentence with a test of its own; a wrong answer is printed with
 * its promise and sentence. With an argument: then also what of the document's text no test has named.
 */
public final class EdgesTest {
    public static void main(String[] args) {
        PictureEdges.run();
        CurvesEdges.run();
        BalanceEdges.run();
        LawsEdges.run();
        EnergiesEdges.run();
        TextsEdges.run();
        RowsEdges.run();
        AnswersEdges.run();
        Edge.needAllNamed();
        if (args.length > 0) {
            Edge.printLeft();
        }
        Check.end();
    }
}
