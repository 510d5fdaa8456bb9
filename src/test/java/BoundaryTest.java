/** The boundary cases that the document names, sentence by sentence. */
public final class BoundaryTest {
    public static void main(String[] args) {
        MessageBoundaries.run();
        PointerBoundaries.run();
        FindingBoundaries.run();
        HandleBoundaries.run();
        FormBoundaries.run();
        RefusalBoundaries.run();
        Sentences.requireAll();
        Checks.end();
    }
}
