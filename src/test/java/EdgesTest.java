/**
 * Each sentence of the document that names a boundary has a test of its own, which quotes it. A sentence
 * that no test quotes, and that does not stand below as one without a boundary, is a fault too.
 */
public final class EdgesTest extends Edges {
    /** PromiseTest looks at what these ask for. */
    private static final String[][] WITHOUT_BOUNDARY = {
        {"Changes and errors", "---- arm and board"},
        {"Changes and errors", "---- drawings"},
        {"Changes and errors", "---- texts"},
        {"Promise 2: arm", "Sets the ratio of the arm."},
        {"Promise 3: pivot", "Sets the pivot."},
        {"Promise 4: set", "Sets something."},
        {"Promise 5: count", "Returns a number."},
        {"Promise 10: copy", "Copies a drawing."},
        {"Promise 11: why", "Tells why a drawing cannot be copied."},
        {"Promise 12: drawing", "Returns a property of a drawing."},
        {"Promise 13: ratio", "Returns the ratio of a drawing."},
        {"Promise 14: pointInfo", "Returns something of a point."},
        {"Promise 15: atOnce", "Returns the place of a point by its original, at once."},
        {"Promise 21: fault", "Tells about the fault of the text."}};

    public static void main(String[] args) {
        EdgesOfDrawings.all();
        EdgesOfBoard.all();
        EdgesOfCopies.all();
        EdgesOfTexts.all();
        EdgesOfChanges.all();
        EdgesOfArmPromises.all();
        EdgesOfDrawingPromises.all();
        EdgesOfTextPromises.all();
        EdgesOfGreatNumbers.all();
        CHECK.about("");
        for (String[] sentence : WITHOUT_BOUNDARY) {
            if (SENTENCES.isThere()) {
                due("sentences with '" + sentence[1] + "'", SENTENCES.quote(sentence[0], sentence[1]), 1);
            }
        }
        for (String sentence : SENTENCES.unquoted()) {
            due("tests of '" + sentence + "'", 0, 1);
        }
        System.out.println(SENTENCES.size() + " sentences of the document");
        CHECK.finish();
    }
}
