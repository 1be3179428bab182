/** The boundaries under "Copies", a test for each. */
final class EdgesOfCopies extends Edges {
    static void all() {
        withoutPoints();
        withBluntPencil();
        withSixDrawings();
        denominatorOfRatio();
        numeratorOfRatio();
        denominatorOfX();
        denominatorOfY();
        justFineEnough();
        numeratorsOfPlaces();
        asThePencilComesToIt();
        theFirstReasonThatApplies();
        refusedCopiesDrawNothing();
        originalOfChain();
        stepsOfChain();
        removedOnlyWithoutCopies();
        noPointsBesideCopies();
        copiesStayAsTheyAre();
        shiftsOfOriginal();
        shiftsOfCopy();
        atOnceByThemselves();
        atOnceAsBySteps();
        atOnceWithPlay();
    }

    // ---- reasons

    private static void withoutPoints() {
        about("Copies", "for the reason 1 if it has no points");
        PantographArm x = with();
        due("no points", x.why(0), 1);
        due("refused", x.copy(0), Checker.IMPOSSIBLE);
        x.point(0, 5, 5, 0);
        due("one point is enough", x.why(0), 0);
        x.undo();
        due("none again", x.why(0), 1);
        x.point(0, 5, 5, 0);
        due("copied", x.copy(0), 1);
        due("its points", x.drawing(1, 0), 1);
    }

    private static void withBluntPencil() {
        about("Copies", "2 if the pencil is blunt");
        PantographArm x = with(0, 0, 0, 900, 0, 1);
        x.set(4, 101);
        x.copy(0);
        due("width 9", x.why(0), 0);
        x.set(4, 100);
        due("width 10", x.why(0), 2);
        due("refused", x.copy(0), Checker.IMPOSSIBLE);
        original(x, 1, 1, 0);
        due("also without lines", x.why(2), 2);
        x.sharpen();
        due("sharp", x.why(0), 0);
    }

    private static void withSixDrawings() {
        about("Copies", "3 if there are 6 drawings");
        PantographArm x = with(1, 1, 0);
        for (int i = 1; i < 5; i++) {
            x.draw();
        }
        due("five", x.why(0), 0);
        due("a sixth", x.copy(0), 5);
        due("six", x.why(0), 3);
        due("of the sixth too", x.why(5), 3);
        due("refused", x.copy(5), Checker.IMPOSSIBLE);
        x.remove(4);
        due("five again", x.why(0), 0);
    }

    /** The places are all 0, so that their denominators are 1. */
    private static void denominatorOfRatio() {
        about("Copies", "or its ratio would have");
        PantographArm x = with(0, 0, 0);
        chain(x, 1, 9, 1, 9, 1, 5, 1, 19);
        x.arm(1, 13);
        due("100035", x.why(4), 4);
        due("refused", x.copy(4), Checker.IMPOSSIBLE);
        x.arm(1, 12);
        due("92340", x.why(4), 0);
        x.arm(13, 20);
        due("153900 / 13", x.why(4), 4);
        x.arm(9, 13);
        due("11115, in lowest terms", x.why(4), 0);
    }

    private static void numeratorOfRatio() {
        about("Copies", "or the numerator of its ratio");
        PantographArm x = with(0, 0, 0);
        chain(x, 9, 1, 9, 1, 5, 1, 19, 1);
        x.arm(13, 1);
        due("100035", x.why(4), 4);
        due("refused", x.copy(4), Checker.IMPOSSIBLE);
        x.arm(12, 1);
        due("92340", x.why(4), 0);
        x.arm(20, 13);
        due("153900 / 13", x.why(4), 4);
        x.arm(13, 9);
        due("11115, in lowest terms", x.why(4), 0);
    }

    private static void denominatorOfX() {
        about("Copies", "4 if a denominator that a place of the copy");
        placeTooFine(1, 0);
    }

    private static void denominatorOfY() {
        about("Copies", "is greater than 100000");
        placeTooFine(0, 1);
    }

    /** The ratio is 28 / 1235 in the end, and the other place 0. */
    private static void placeTooFine(int xWay, int yWay) {
        int[][] arms = {{18, 13, 3}, {18, 19, 2}, {7, 12, 3}, {2, 18, 3}};
        PantographArm x = with(0, 0, 0);
        for (int i = 0; i < arms.length; i++) {
            x.pivot(arms[i][2] * xWay, arms[i][2] * yWay);
            x.arm(arms[i][0], arms[i][1]);
            due("copy", x.copy(i), i + 1);
        }
        x.pivot(2 * xWay, 2 * yWay);
        x.arm(4, 15);
        due("219851 / 100035", x.why(4), 4);
        due("refused", x.copy(4), Checker.IMPOSSIBLE);
        x.arm(4, 14);
        due("less fine", x.why(4), 0);
        due("copied", x.copy(4), 5);
    }

    private static void justFineEnough() {
        about("Copies", "a denominator that a place of the copy (as the pencil comes to it) or its ratio would have");
        PantographArm smaller = with(1, 1, 0);
        chain(smaller, 1, 20, 1, 20, 1, 10, 1, 5, 1, 5);
        due("denominator of the ratio", smaller.ratio(5, 1), 100000);
        CHECK.dueAll("places", place(smaller, 5, 0), 1, 100000, 1, 100000);
        PantographArm larger = with(0, 0, 0);
        chain(larger, 20, 1, 20, 1, 10, 1, 5, 1, 5, 1);
        due("numerator of the ratio", larger.ratio(5, 0), 100000);
        int[][] arms = {{12, 5, 3}, {7, 20, 1}, {17, 5, 3}, {13, 20, 1}, {11, 20, 2}};
        PantographArm x = with(0, 0, 0);
        for (int i = 0; i < arms.length; i++) {
            x.pivot(arms[i][2], 0);
            x.arm(arms[i][0], arms[i][1]);
            due("copy", x.copy(i), i + 1);
        }
        CHECK.dueAll("finer than its ratio", place(x, 5, 0), -247821, 100000, 0, 1);
        due("the ratio", x.ratio(5, 1), 50000);
    }

    private static void numeratorsOfPlaces() {
        about("Copies", "or the numerator of its ratio, is greater than 100000");
        PantographArm x = with(1000, 501, 0, 0, 0, 1);
        chain(x, 20, 1, 20, 1, 20, 1, 12, 1);
        CHECK.dueAll("numerators of places do not matter", place(x, 4, 0), 96000000, 1, 48096000, 1);
        PantographArm y = with(999, 0, 0);
        chain(y, 1, 20, 1, 20, 20, 1, 19, 1);
        CHECK.dueAll("999 * 19 / 20", place(y, 4, 0), 18981, 20, 0, 1);
    }

    private static void asThePencilComesToIt() {
        about("Copies", "(as the pencil comes to it)");
        PantographArm x = with(0, 0, 0, 31, 31, 1);
        x.set(1, 1);
        chain(x, 19, 20, 17, 19, 13, 17, 11, 13);
        due("the lag does not cancel", x.pointInfo(4, 1, 1), 83980);
        x.arm(7, 11);
        due("the aim is too fine, and the pencil comes along", x.why(4), 4);
        x.set(1, 50);
        due("the aim is too fine, but the pencil stays", x.why(4), 0);
        due("copied", x.copy(4), 5);
        CHECK.dueAll("it stays", place(x, 5, 1), 0, 1, 0, 1);
    }

    private static void theFirstReasonThatApplies() {
        about("Copies", "the first one of these that applies");
        PantographArm x = with(0, 0, 0, 900, 0, 1);
        chain(x, 1, 20, 1, 20, 1, 20);
        x.arm(1, 20);
        due("4 alone", x.why(3), 4);
        x.draw();
        due("1 alone", x.why(4), 1);
        x.draw();
        due("3 ahead of 4", x.why(3), 3);
        due("1 ahead of 3", x.why(4), 1);
        x.set(4, 1);
        due("2 ahead of 3 and 4", x.why(3), 2);
        due("2 ahead of 3", x.why(0), 2);
        due("1 ahead of 2 and 3", x.why(4), 1);
        x.remove(5);
        due("2 ahead of 4", x.why(3), 2);
        due("1 ahead of 2", x.why(4), 1);
        due("2 alone", x.why(0), 2);
    }

    private static void refusedCopiesDrawNothing() {
        about("Copies", "A drawing cannot be copied for the reason");
        PantographArm x = with(0, 0, 0, 20, 0, 1);
        chain(x, 1, 20, 1, 20, 1, 20);
        long[] before = counts(x);
        x.arm(1, 20);
        due("too fine", x.copy(3), Checker.IMPOSSIBLE);
        before[2] = 20;
        CHECK.dueAll("counts", counts(x), before);
        x.draw();
        due("nothing of it is left", x.drawing(4, 0), 0);
        due("nor its ratio", x.ratio(4, 1), 1);
        due("nor where it came from", x.drawing(4, 1), Checker.MISSING);
    }

    // ---- chains

    private static void originalOfChain() {
        about("Copies", "The original of a copy is the drawing with which its chain of copies began.");
        PantographArm x = with(1, 1, 0);
        original(x, 2, 2, 0);
        chain(x, 1, 1, 1, 1, 1, 1, 1, 1);
        due("of an original, itself", x.drawing(0, 2), 0);
        for (int number = 1; number < 6; number++) {
            due("of " + number, x.drawing(number, 2), 1);
        }
        x.remove(0);
        for (int number = 0; number < 5; number++) {
            due("of " + number + " then", x.drawing(number, 2), 0);
        }
    }

    private static void stepsOfChain() {
        about("Copies", "Its steps are the copies in this chain (0 for an original).");
        PantographArm x = with(1, 1, 0);
        chain(x, 1, 1, 1, 1, 1, 1, 1, 1, 1, 1);
        for (int number = 0; number < 6; number++) {
            due("of " + number, x.drawing(number, 3), number);
        }
        x.remove(5);
        x.copy(0);
        due("beside the chain", x.drawing(5, 3), 1);
    }

    private static void removedOnlyWithoutCopies() {
        about("Copies", "a drawing can be removed only if no other one is a copy of it");
        PantographArm x = with(1, 1, 0);
        chain(x, 1, 1, 1, 1);
        due("the original", x.remove(0), Checker.IMPOSSIBLE);
        due("the copy in between", x.remove(1), Checker.IMPOSSIBLE);
        due("none is gone", x.count(0), 3);
        due("the last copy", x.remove(2), 2);
        due("the copy", x.remove(1), 1);
        due("the original", x.remove(0), 0);
        due("none is left", x.drawing(0, 0), Checker.INVALID);
    }

    private static void noPointsBesideCopies() {
        about("Copies", "an original of which there are copies gets no more points");
        PantographArm x = with(1, 1, 0);
        chain(x, 1, 1);
        due("with a copy", x.point(0, 2, 2, 1), Checker.IMPOSSIBLE);
        due("of the copy", x.point(1, 2, 2, 1), Checker.IMPOSSIBLE);
        x.remove(1);
        due("without it", x.point(0, 2, 2, 1), 1);
        x.copy(0);
        x.undo();
        due("after it was undone", x.point(0, 3, 3, 1), 2);
    }

    private static void copiesStayAsTheyAre() {
        about("Copies", "When a drawing is removed, or an original gets another point, drawings that are copies stay");
        PantographArm x = with(9, 9, 0);
        original(x, 30, 40, 0, 50, 70, 1);
        x.pivot(3, 4);
        x.set(0, 2);
        chain(x, 3, 2);
        x.set(0, 0);
        x.pivot(100, 0);
        chain(x, 1, 7);
        long[] whole = properties(x, 3);
        long[] last = place(x, 3, 1);
        long[] lastAtOnce = placeAtOnce(x, 3, 1);
        x.point(0, 500, 500, 1);
        CHECK.dueAll("with another point of another original", properties(x, 3), whole);
        x.remove(0);
        whole[1]--;
        whole[2]--;
        CHECK.dueAll("without another original", properties(x, 2), whole);
        CHECK.dueAll("its place", place(x, 2, 1), last);
        CHECK.dueAll("its place at once", placeAtOnce(x, 2, 1), lastAtOnce);
        x.copy(0);
        x.remove(3);
        CHECK.dueAll("without another copy", properties(x, 2), whole);
        CHECK.dueAll("its place", place(x, 2, 1), last);
    }

    // ---- at once

    private static void shiftsOfOriginal() {
        about("Copies", "where the shifts of an original are 0");
        PantographArm x = new PantographArm();
        x.arm(3, 2);
        x.pivot(70, 80);
        x.set(0, 1);
        original(x, 5, 1000, 0, 0, 0, 1);
        CHECK.dueAll("its own place", placeAtOnce(x, 0, 0), 5, 1, 1000, 1);
        CHECK.dueAll("0", placeAtOnce(x, 0, 1), 0, 1, 0, 1);
        x.copy(0);
        x.remove(1);
        x.draw();
        x.point(1, 6, 7, 0);
        CHECK.dueAll("nothing of a copy that was there", placeAtOnce(x, 1, 0), 6, 1, 7, 1);
    }

    private static void shiftsOfCopy() {
        about("Copies", "pivot - (sign of the arm * a / b * pivot)");
        int[][] signs = {{1, 1}, {-1, -1}, {-1, 1}};
        for (int kind = 0; kind < 3; kind++) {
            PantographArm x = with(0, 0, 0);
            x.pivot(1000, 10);
            x.set(0, kind);
            chain(x, 1, 2, 1, 2);
            int half = 500 * signs[kind][0];
            int five = 5 * signs[kind][1];
            CHECK.dueAll("shift", placeAtOnce(x, 1, 0), 1000 - half, 1, 10 - five, 1);
            long twiceX = 2 * (1000 - half) + (1000 - half) * signs[kind][0];
            long twiceY = 2 * (10 - five) + (10 - five) * signs[kind][1];
            due("shift of x of a copy of it", 2 * x.atOnce(2, 0, 0), twiceX * x.atOnce(2, 0, 1));
            due("shift of y of a copy of it", 2 * x.atOnce(2, 0, 2), twiceY * x.atOnce(2, 0, 3));
        }
    }

    private static void atOnceByThemselves() {
        about("Copies", "for x and y by themselves");
        PantographArm x = with(7, 11, 0);
        x.pivot(100, 0);
        x.set(0, 2);
        chain(x, 1, 3);
        CHECK.dueAll("x mirrored about 100, y from 0", placeAtOnce(x, 1, 0), 131, 1, 11, 3);
        x.pivot(0, 50);
        chain(x, 3, 1);
        CHECK.dueAll("x from 0, y about 50", placeAtOnce(x, 2, 0), -393, 1, -89, 1);
    }

    private static void atOnceAsBySteps() {
        about("Copies", "(Without play this is the same as by steps.)");
        int[][] arms = {{20, 19, 1000, 0, 1}, {19, 20, 0, 1000, 2}, {7, 13, 999, 1, 1}, {13, 7, 500, 500, 0},
            {1, 20, 3, 3, 2}};
        PantographArm x = with(0, 0, 0, 1000, 1000, 1, 0, 1000, 1, 123, 456, 0);
        for (int i = 0; i < arms.length; i++) {
            x.arm(arms[i][0], arms[i][1]);
            x.pivot(arms[i][2], arms[i][3]);
            x.set(0, arms[i][4]);
            due("copy", x.copy(i), i + 1);
            for (int point = 0; point < 4; point++) {
                CHECK.dueAll("at once", placeAtOnce(x, i + 1, point), place(x, i + 1, point));
            }
        }
        for (int point = 0; point < 4; point++) {
            CHECK.dueAll("the original", placeAtOnce(x, 0, point), place(x, 0, point));
        }
    }

    private static void atOnceWithPlay() {
        about("Copies", "At once, the point of a copy that belongs to a point (x, y) of its original");
        PantographArm x = with(0, 0, 0, 40, 60, 1, 0, 0, 1);
        x.set(1, 50);
        chain(x, 1, 1, 3, 2);
        CHECK.dueAll("by steps", place(x, 1, 1), 0, 1, 10, 1);
        CHECK.dueAll("the play does not matter", placeAtOnce(x, 1, 1), 40, 1, 60, 1);
        CHECK.dueAll("nor in a copy of it", placeAtOnce(x, 2, 1), 60, 1, 90, 1);
        CHECK.dueAll("back at the first", placeAtOnce(x, 2, 2), 0, 1, 0, 1);
    }
}
