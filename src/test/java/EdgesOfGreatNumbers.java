/** How far the numbers of the document can go: numerators and parts beyond an int, the greatest lengths. */
final class EdgesOfGreatNumbers extends Edges {
    private static final int STRAIGHT = 0;
    private static final int TURNED = 1;
    private static final int MIRRORED = 2;

    static void all() {
        numeratorsBeyondInt();
        for (int n = 18; n <= 20; n++) {
            sameAfterFiveSteps(n);
            linesAfterFiveSteps(n);
            borderAfterFiveSteps(n);
            turnedFiveTimes(n);
            playAfterFiveSteps(n);
            alikeAfterFiveSteps(n);
            armForFiveSteps(n);
            undoneAfterFiveSteps(n);
        }
        longestDrawing();
        longestCopies();
    }

    /** A place that is told in another way than its denominator and its numerator would be is found here. */
    private static void numeratorsBeyondInt() {
        about("Terms", "A fraction is told by its numerator and its denominator");
        PantographArm x = with(0, 1, 0);
        farCopy(x, TURNED, 1000, 20, 1);
        CHECK.dueAll("21000 and 20980", place(x, 1, 0), 21000, 1, 20980, 1);
        farCopy(x, STRAIGHT, 0, 20, 1);
        farCopy(x, STRAIGHT, 0, 20, 1);
        farCopy(x, STRAIGHT, 1, 19, 20);
        CHECK.dueAll("of 20 parts", place(x, 4, 0), 159600001L, 20, 159448001L, 20);
        farCopy(x, STRAIGHT, 1, 19, 20);
        CHECK.dueAll("straight", place(x, 5, 0), 3032400039L, 400, 3029512039L, 400);
        CHECK.dueAll("straight, at once", placeAtOnce(x, 5, 0), 3032400039L, 400, 3029512039L, 400);
        x.remove(5);
        farCopy(x, TURNED, 1, 19, 20);
        CHECK.dueAll("turned", place(x, 5, 0), -3032399239L, 400, -3029511239L, 400);
        CHECK.dueAll("turned, at once", placeAtOnce(x, 5, 0), -3032399239L, 400, -3029511239L, 400);
        x.remove(5);
        farCopy(x, MIRRORED, 1, 19, 20);
        CHECK.dueAll("mirrored", place(x, 5, 0), -3032399239L, 400, 3029512039L, 400);
        CHECK.dueAll("mirrored, at once", placeAtOnce(x, 5, 0), -3032399239L, 400, 3029512039L, 400);
        due("7220", x.ratio(5, 0), 7220);
        due("1", x.ratio(5, 1), 1);
    }

    private static void farCopy(PantographArm x, int kind, int pivot, int a, int b) {
        x.set(0, kind);
        x.pivot(pivot, pivot);
        x.arm(a, b);
        int latest = x.count(0) - 1;
        due("copy of " + latest, x.copy(latest), latest + 1);
    }

    /** Five steps by an arm of n / n leave all as it is, however the program holds its fractions. */
    private static PantographArm fiveSteps(int n, int kind, int... points) {
        PantographArm x = with(points);
        x.set(0, kind);
        x.set(4, 1000);
        x.arm(n, n);
        for (int i = 0; i < 5; i++) {
            due("copy by " + n + " / " + n, x.copy(i), i + 1);
            x.sharpen();
        }
        return x;
    }

    private static void sameAfterFiveSteps(int n) {
        about("Arm", "is (px + sign of x * a / b * (x - px), py + sign of y * a / b * (y - py))");
        PantographArm x = with(1000, 999, 0, 0, 1, 0, 997, 1000, 0);
        x.pivot(1000, 1);
        x.arm(n, n);
        for (int i = 0; i < 5; i++) {
            due("reason", x.why(i), 0);
            due("copy", x.copy(i), i + 1);
            CHECK.dueAll("point 0 of " + (i + 1), place(x, i + 1, 0), 1000, 1, 999, 1);
            CHECK.dueAll("point 1 of " + (i + 1), place(x, i + 1, 1), 0, 1, 1, 1);
            CHECK.dueAll("point 2 of " + (i + 1), place(x, i + 1, 2), 997, 1, 1000, 1);
            CHECK.dueAll("point 0 at once", placeAtOnce(x, i + 1, 0), 1000, 1, 999, 1);
            CHECK.dueAll("point 1 at once", placeAtOnce(x, i + 1, 1), 0, 1, 1, 1);
            CHECK.dueAll("point 2 at once", placeAtOnce(x, i + 1, 2), 997, 1, 1000, 1);
        }
    }

    private static void linesAfterFiveSteps(int n) {
        about("Board, pencil", "The length of a line is the absolute difference in x plus that in y");
        PantographArm x = fiveSteps(n, STRAIGHT, 1000, 1000, 0, 0, 0, 1, 1000, 0, 1, 999, 1000, 1, 1, 1, 0, 1, 999, 1);
        CHECK.dueAll("lengths", ofPoints(x, 5, 6), 0, 2000, 1000, 1001, 0, 998);
        CHECK.dueAll("widths", ofPoints(x, 5, 5), 0, 1, 3, 4, 0, 5);
        due("lines", x.drawing(5, 6), 4);
        due("their length", x.drawing(5, 7), 4999);
        due("the length of all", x.count(14), 5 * 4999);
        due("left out", x.count(15), 0);
    }

    private static void borderAfterFiveSteps(int n) {
        about("Board, pencil", "The board is from 0 to W and from 0 to H (W and H 10 to 1000");
        PantographArm x = fiveSteps(n, STRAIGHT, 1000, 0, 0, 999, 999, 0, 0, 1000, 0);
        due("on the border", x.drawing(5, 9), 0);
        x.set(2, 999);
        due("beyond W", x.drawing(5, 9), 1);
        x.set(3, 999);
        due("beyond W, beyond H", x.drawing(5, 9), 2);
        x.set(2, 998);
        due("the one between too", x.drawing(5, 9), 2 + 1);
    }

    private static void turnedFiveTimes(int n) {
        about("Drawings", "A drawing has a ratio, a fraction above 0, and a sign for x and one for y (1 or -1)");
        PantographArm x = fiveSteps(n, TURNED, 1000, 999, 0, 1, 1000, 1);
        CHECK.dueAll("turned five times", place(x, 5, 0), -1000, 1, -999, 1);
        CHECK.dueAll("turned five times", place(x, 5, 1), -1, 1, -1000, 1);
        CHECK.dueAll("turned four times", place(x, 4, 0), 1000, 1, 999, 1);
        CHECK.dueAll("at once", placeAtOnce(x, 5, 0), -1000, 1, -999, 1);
        due("sign of x", x.drawing(5, 4), -1);
        due("sign of y", x.drawing(5, 5), -1);
        due("not on the board", x.drawing(5, 9), 2);
        due("left out", x.count(15), 3);
        due("drawn", x.count(13), 2);
    }

    private static void playAfterFiveSteps(int n) {
        about("Arm", "with the place q of the pencil and the aim t, the pencil comes to t - play");
        PantographArm x = fiveSteps(n, STRAIGHT, 0, 0, 0, 1000, 1000, 1, 0, 1000, 1, 950, 0, 1, 950, 101, 1, 951, 1, 1);
        x.remove(5);
        x.set(1, 50);
        due("copy", x.copy(4), 5);
        CHECK.dueAll("numerators of x", ofPoints(x, 5, 0), 0, 950, 50, 900, 900, 901);
        CHECK.dueAll("denominators of x", ofPoints(x, 5, 1), 1, 1, 1, 1, 1, 1);
        CHECK.dueAll("numerators of y", ofPoints(x, 5, 2), 0, 950, 950, 50, 51, 51);
        CHECK.dueAll("denominators of y", ofPoints(x, 5, 3), 1, 1, 1, 1, 1, 1);
        CHECK.dueAll("lengths", ofPoints(x, 5, 6), 0, 1900, 900, 1750, 1, 1);
    }

    private static void alikeAfterFiveSteps(int n) {
        about("Promise 16: alike", "how many points of two drawings with the same number are at the same place");
        PantographArm x = fiveSteps(n, STRAIGHT, 1000, 0, 0, 0, 1000, 0, 777, 999, 0);
        for (int i = 0; i < 6; i++) {
            due(i + " and the last one", x.alike(i, 5), 3);
            due("the last one and " + i, x.alike(5, i), 3);
        }
        x.remove(5);
        x.arm(n, n - 1);
        x.copy(4);
        due("other places", x.alike(4, 5), 0);
        x.remove(5);
        x.pivot(0, 1000);
        x.copy(4);
        due("but the pivot", x.alike(4, 5), 1);
        due("the other way", x.alike(5, 0), 1);
    }

    private static void armForFiveSteps(int n) {
        about("Promise 17: armFor", "with a / b the ratio of one drawing divided by that of another one");
        PantographArm x = fiveSteps(n, STRAIGHT, 0, 0, 0);
        for (int i = 0; i < 6; i++) {
            due("for " + i + " from the last one", x.armFor(i, 5), 101);
            due("for the last one from " + i, x.armFor(5, i), 101);
        }
        x.remove(5);
        x.arm(1, n);
        x.copy(4);
        due("1 / n", x.armFor(5, 4), 100 + n);
        due("n", x.armFor(0, 5), 100 * n + 1);
    }

    private static void undoneAfterFiveSteps(int n) {
        about("Promise 18: undo", "Restores the latest state of the history");
        PantographArm x = with(1000, 999, 0, 1, 1000, 0);
        x.set(0, TURNED);
        x.pivot(1000, 999);
        x.arm(n, n);
        for (int i = 0; i < 5; i++) {
            due("copy", x.copy(i), i + 1);
        }
        x.remove(5);
        due("undo", x.undo(), 3);
        CHECK.dueAll("point 0", place(x, 5, 0), 1000, 1, 999, 1);
        CHECK.dueAll("point 1", place(x, 5, 1), 1999, 1, 998, 1);
        CHECK.dueAll("point 0 at once", placeAtOnce(x, 5, 0), 1000, 1, 999, 1);
        CHECK.dueAll("point 1 at once", placeAtOnce(x, 5, 1), 1999, 1, 998, 1);
        due("alike", x.alike(5, 3), 2);
        due("ratio", x.ratio(5, 0), 1);
    }

    private static PantographArm longest() {
        PantographArm x = new PantographArm();
        x.draw();
        for (int i = 0; i < 20; i++) {
            x.point(0, i % 2 * 1000, i % 2 * 1000, 1);
        }
        return x;
    }

    private static void longestDrawing() {
        about("Promise 12: drawing", "6: lines that are drawn; 7: their length together");
        PantographArm x = longest();
        due("lines", x.drawing(0, 6), 19);
        due("19 of 2000", x.drawing(0, 7), 38000);
        x.copy(0);
        due("lines of the copy", x.drawing(1, 6), 19);
        due("19 of 2000", x.drawing(1, 7), 38000);
    }

    private static void longestCopies() {
        about("Board, pencil", "then the wear grows by the length of the line");
        PantographArm x = longest();
        x.set(4, 1000);
        for (int i = 1; i < 6; i++) {
            x.copy(0);
            due("wear", x.count(10), 38000);
            due("length", x.count(14), 38000 * i);
            due("lines", x.count(13), 19 * i);
            due("blunt", x.count(11), 1);
            due("its reason", x.why(0), 2);
            x.arm(1, 1);
            due("undo", x.undo(), 3);
            due("the wear again", x.count(10), 38000);
            due("the length again", x.count(14), 38000 * i);
            due("sharpened", x.sharpen(), 38000);
        }
        CHECK.dueAll("widths", ofPoints(x, 5, 5), 0, 1, 3, 5, 7, 9, 9, 9, 9, 9, 9, 9, 9, 9, 9, 9, 9, 9, 9, 9);
    }
}
