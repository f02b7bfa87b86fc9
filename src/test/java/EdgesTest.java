/** Each sentence of the document, by its promise: its edges hold, and no sentence is without a test. */
public final class EdgesTest {
    public static void main(String[] args) {
        TextEdges.all();
        ButtEdges.all();
        DeedsEdges.all();
        AimsEdges.all();
        RoundsEdges.all();
        SeenEdges.all();
        OrderEdges.all();
        TraysEdges.all();
        RefusedEdges.all();
        Check.endSentence();
        if (Doc.isThere()) {
            noSentenceIsLeft();
        } else {
            System.out.println("no document beside the checkout: its sentences are not looked up");
        }
        Check.end("EdgesTest");
    }

    private static void noSentenceIsLeft() {
        for (int section = Doc.TERMS; section <= Doc.LAST; section++) {
            String name = section == Doc.TERMS ? "Terms" : "promise " + section;
            for (String piece : Doc.left(section)) {
                Check.due("[" + name + "] no test tells '" + piece + "': tests", 0, 1);
            }
        }
    }
}
