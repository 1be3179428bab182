/** What the tests of the boundaries have in common: each says first which sentence it is about. */
abstract class Edges extends ByHand {
    static final Sentences SENTENCES = new Sentences();

    /** A call that takes one number. */
    interface Taking {
        long of(int number);
    }

    /** A call on an arm that takes one number. */
    interface Asking {
        long of(PantographArm x, int number);
    }

    /** The answers from here on are about the sentence of the document in which these words stand. */
    static void about(String heading, String words) {
        CHECK.about("");
        if (SENTENCES.isThere()) {
            due("sentences with '" + words + "' under '" + heading + "'", SENTENCES.quote(heading, words), 1);
        }
        CHECK.about(heading + ": " + words);
    }

    /** Every call on a new object: the numbers from least to most are taken, the ones around them are not. */
    static void range(int least, int most, Taking call) {
        taken(least, call.of(least));
        taken(most, call.of(most));
        due("below the least", call.of(least - 1), Checker.INVALID);
        due("above the most", call.of(most + 1), Checker.INVALID);
        due("far below", call.of(Integer.MIN_VALUE), Checker.INVALID);
        due("far above", call.of(Integer.MAX_VALUE), Checker.INVALID);
        // They would be taken if their upper bits were lost.
        due("2^16 above the least", call.of(least + 65536), Checker.INVALID);
        due("2^16 below the most", call.of(most - 65536), Checker.INVALID);
    }

    /** Where the least answer that is no error is far above the constants of the errors. */
    static void taken(int number, long answer) {
        due(number + " is taken (" + answer + ")", answer > -2000000000 ? 1 : 0, 1);
    }

    /** The call wants the number of a drawing: of those that are there now, and of no other. */
    static void drawingNumber(Asking call) {
        due("no drawing at all", call.of(new PantographArm(), 0), Checker.INVALID);
        for (int number = 0; number < 3; number++) {
            taken(number, call.of(threeDrawings(), number));
        }
        due("behind the last one", call.of(threeDrawings(), 3), Checker.INVALID);
        due("as many as there can be", call.of(threeDrawings(), 6), Checker.INVALID);
        for (int out : OUT) {
            due("drawing " + out, call.of(threeDrawings(), out), Checker.INVALID);
        }
        PantographArm removed = threeDrawings();
        removed.remove(1);
        due("removed", call.of(removed, 2), Checker.INVALID);
        PantographArm undone = threeDrawings();
        undone.undo();
        undone.undo();
        due("undone", call.of(undone, 2), Checker.INVALID);
        PantographArm six = threeDrawings();
        six.draw();
        six.draw();
        six.draw();
        due("behind the sixth", call.of(six, 6), Checker.INVALID);
    }

    /** Three originals with a point each, of which none is a copy. */
    static PantographArm threeDrawings() {
        PantographArm x = new PantographArm();
        for (int i = 0; i < 3; i++) {
            original(x, i, 2 * i, 0);
        }
        return x;
    }
}
