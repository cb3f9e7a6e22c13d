/** Each sentence of the document that names a boundary, on each side of it; the sentence stands with each test. */
public final class EdgesTest {
    public static void main(String[] args) {
        EdgesOfTerms.run();
        EdgesOfTexts.run();
        EdgesOfDeeds.run();
        EdgesOfAnswers.run();
        EdgesOfCalls.run();
        Edges.allIsQuoted();
        Check.finish();
    }
}
