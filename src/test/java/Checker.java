/** Counts the answers that are not the ones that are due, and tells them. */
final class Checker {
    static final int INVALID = PantographArm.INVALID_ARGUMENT;
    static final int IMPOSSIBLE = PantographArm.NOT_POSSIBLE;
    static final int LIMIT = PantographArm.LIMIT_REACHED;
    static final int MISSING = PantographArm.NOT_FOUND;

    private int looks = 0;
    private int wrong = 0;
    private String topic = "";
    private int looksAhead = 0;

    /** Names what the answers that follow are about; a topic without any answer is a fault of the test. */
    void about(String next) {
        endTopic();
        topic = next;
        looksAhead = looks;
    }

    private void endTopic() {
        if (!topic.isEmpty() && looks == looksAhead) {
            due("answers about it", 0, 1);
        }
        topic = "";
    }

    void due(String what, long got, long want) {
        looks++;
        if (got != want) {
            wrong++;
            if (wrong <= 50) {
                String told = topic.isEmpty() ? what : "[" + topic + "] " + what;
                System.out.println(told + " answered " + got + ", due is " + want);
            }
        }
    }

    /** Several answers of one kind, in their order. */
    void dueAll(String what, long[] got, long... want) {
        due(what + ", how many", got.length, want.length);
        for (int i = 0; i < got.length && i < want.length; i++) {
            due(what + " [" + i + "]", got[i], want[i]);
        }
    }

    boolean hasFailed() {
        return wrong > 0;
    }

    /** Ends the test: with exit code 1 if an answer was wrong. */
    void finish() {
        endTopic();
        System.out.println(looks + " answers looked at, " + wrong + " wrong");
        if (wrong > 0) {
            System.exit(1);
        }
    }
}
