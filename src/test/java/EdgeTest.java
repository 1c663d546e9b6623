/**
 * Each sentence of the document that names a boundary case has a test of its own here: the least and the
 * greatest that is taken, the next that is refused, what is empty, what is full, what is refused and
 * leaves everything as it was. See Sentence for how it is known that none was left out.
 */
public final class EdgeTest {

    private EdgeTest() {
    }

    public static void main(String[] args) {
        EdgesOfAllCalls.test();
        EdgesOfData.test();
        EdgesOfTyped.test();
        EdgesOfFilling.test();
        EdgesOfFilters.test();
        EdgesOfLetters.test();
        EdgesOfCalls.test();
        EdgesOfQuestions.test();
        EdgesOfOutcomes.test();
        Sentence.end();
        Check.end("EdgeTest");
    }
}
