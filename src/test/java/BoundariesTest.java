/**
 * For each sentence of the document that names a boundary case a test of its own, which names the promise and the
 * sentence: the last value on either side and the one behind it, empty and full, wrap-arounds, refused calls.
 */
public final class BoundariesTest {
    private BoundariesTest() {
    }

    public static void main(String[] args) {
        BoardBoundaries.run();
        MoveBoundaries.run();
        LadderBoundaries.run();
        TextBoundaries.run();
        ActionBoundaries.run();
        ScriptBoundaries.run();
        RefusedBoundaries.run();
        CallBoundaries.run();
        DocumentWalk.run();
        for (int promise = 1; promise <= 26; promise++) {
            Checks.same("promise " + promise + " has sentences", "" + (Checks.sentencesOf(promise) > 0), "true");
        }
        Checks.end("BoundariesTest");
    }
}
