/** Counts the answers that are not the ones that are due, and tells them. */
final class Checker {
    static final int INVALID = PantographArm.INVALID_ARGUMENT;
    static final int IMPOSSIBLE = PantographArm.NOT_POSSIBLE;
    static final int LIMIT = PantographArm.LIMIT_REACHED;
    static final int MISSING = PantographArm.NOT_FOUND;

    private int looks = 0;
    private int wrong = 0;

    void due(String what, long got, long want) {
        looks++;
        if (got != want) {
            wrong++;
            if (wrong <= 50) {
                System.out.println(what + " answered " + got + ", due is " + want);
            }
        }
    }

    /** Several answers of one kind, in their order. */
    void dueAll(String what, long[] got, long... want) {
        due(what + ", how many", got.length, want.length);
        for (int i = 0; i < got.length && i < want.length; i++) {
            due(what + " [" + i + "]", got[i], want[i]);
        }
    }

    boolean hasFailed() {
        return wrong > 0;
    }

    /** Ends the test: with exit code 1 if an answer was wrong. */
    void finish() {
        System.out.println(looks + " answers looked at, " + wrong + " wrong");
        if (wrong > 0) {
            System.exit(1);
        }
    }
}
