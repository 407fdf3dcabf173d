/** Each sentence of the document has a test of its own here, on both sides of the boundary it names. */
public final class BoundaryTests extends Sentences {
    public static void main(String[] args) {
        TermSentences.all();
        PromiseSentences.all();
        allIsQuoted();
        System.out.println("BoundaryTests: " + sentences + " sentences, " + passed + " passed, " + failed + " failed");
        if (failed != 0) {
            System.exit(1);
        }
    }
}
