/** The document sentence by sentence: what each one names, at its edge and on either side of it. */
public final class EdgesTest {
    private static final int PROMISES = 17;

    public static void main(String[] args) {
        OpeningEdges.all();
        ValueEdges.all();
        CodeEdges.all();
        StepEdges.all();
        RoomEdges.all();
        SiteEdges.all();
        PromiseEdges.all();
        everySentenceHasATest();
        Check.end("EdgesTest");
    }

    private static void everySentenceHasATest() {
        Check.ofNone();
        without("What it is");
        without("Terms");
        for (int promise = 1; promise <= PROMISES; promise++) {
            without("Promise " + promise);
        }
    }

    private static void without(String section) {
        String left = Document.left(section);
        Check.holds(section + " is without a test for: " + left, left.isEmpty());
    }
}
