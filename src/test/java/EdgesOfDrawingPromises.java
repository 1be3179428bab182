/** The boundaries of promises 7 to 17, a test for each sentence. */
final class EdgesOfDrawingPromises extends Edges {
    static void all() {
        drawBegins();
        drawReturns();
        pointAdds();
        pointDrawing();
        pointX();
        pointY();
        pointJoined();
        pointReturns();
        removeRenumbers();
        removeDrawing();
        removeReturns();
        copyDrawing();
        copyReturns();
        whyDrawing();
        whyReturns();
        drawingDrawing();
        drawingWhat();
        drawingWithoutLines();
        drawingOnBoardNow();
        drawingFloats();
        drawingReturns();
        ratioDrawing();
        ratioPart();
        ratioReturns();
        pointInfoDrawing();
        pointInfoPoint();
        pointInfoWhat();
        pointInfoReturns();
        atOnceDrawing();
        atOncePoint();
        atOnceWhat();
        atOnceReturns();
        alikeCounts();
        alikeAtSamePlace();
        alikeOne();
        alikeOther();
        alikeReturns();
        armForLeast();
        armForOne();
        armForOther();
        armForReturns();
    }

    // ---- 7 to 9: draw, point, remove

    private static void drawBegins() {
        about("Promise 7: draw", "Begins an original without points.");
        PantographArm x = with(1, 1, 0, 2, 2, 1);
        x.copy(0);
        x.remove(1);
        due("draw", x.draw(), 1);
        CHECK.dueAll("nothing of what was there", properties(x, 1),
            0, Checker.MISSING, 1, 0, 1, 1, 0, 0, 0, 0, Float.floatToIntBits(1f), 10);
        due("its first point", x.point(1, 3, 3, 1), 0);
    }

    private static void drawReturns() {
        about("Promise 7: draw", "Returns the number of the drawing; LIMIT_REACHED if there are 6.");
        PantographArm x = new PantographArm();
        for (int i = 0; i < 6; i++) {
            due("draw", x.draw(), i);
        }
        due("a seventh", x.draw(), Checker.LIMIT);
        due("still six", x.count(0), 6);
        x.remove(0);
        due("the sixth again", x.draw(), 5);
        due("a seventh again", x.draw(), Checker.LIMIT);
        x.undo();
        due("the sixth after undo", x.draw(), 5);
    }

    private static void pointAdds() {
        about("Promise 8: point", "Adds a point to an original.");
        PantographArm x = with(1, 2, 0);
        x.draw();
        x.point(0, 3, 4, 1);
        CHECK.dueAll("x", ofPoints(x, 0, 0), 1, 3);
        CHECK.dueAll("y", ofPoints(x, 0, 2), 2, 4);
        due("none to the other", x.drawing(1, 0), 0);
    }

    private static void pointDrawing() {
        about("Promise 8: point", "`drawing`: number of the drawing");
        drawingNumber((x, number) -> x.point(number, 1, 1, 1));
    }

    private static void pointX() {
        about("Promise 8: point", "`x`: 0 to 1000");
        range(0, 1000, x -> with().point(0, x, 0, 0));
        range(0, 1000, x -> with(5, 5, 0).point(0, x, 1000, 1));
    }

    private static void pointY() {
        about("Promise 8: point", "`y`: 0 to 1000");
        range(0, 1000, y -> with().point(0, 0, y, 0));
        range(0, 1000, y -> with(5, 5, 0).point(0, 1000, y, 1));
    }

    private static void pointJoined() {
        about("Promise 8: point", "otherwise 0 (for the first point it does not matter)");
        range(0, 1, joined -> with(1, 1, 0).point(0, 2, 2, joined));
        range(0, 1, joined -> with().point(0, 2, 2, joined));
        PantographArm x = with(1, 1, 0, 2, 2, 1, 3, 3, 0);
        PantographArm y = with(1, 1, 1, 2, 2, 1, 3, 3, 0);
        CHECK.dueAll("the first 0", ofPoints(x, 0, 4), 0, 1, 0);
        CHECK.dueAll("the first 1", ofPoints(y, 0, 4), 0, 1, 0);
        CHECK.dueAll("all the same", properties(y, 0), properties(x, 0));
    }

    private static void pointReturns() {
        about("Promise 8: point",
            "NOT_POSSIBLE if the drawing is a copy, or there are copies of it; LIMIT_REACHED if it has 20 points.");
        PantographArm x = with();
        for (int i = 0; i < 20; i++) {
            due("point", x.point(0, i, i, 0), i);
        }
        due("a 21st", x.point(0, 20, 20, 0), Checker.LIMIT);
        due("twenty", x.drawing(0, 0), 20);
        x.undo();
        due("nineteen", x.drawing(0, 0), 19);
        due("a twentieth again", x.point(0, 20, 20, 0), 19);
        x.undo();
        x.copy(0);
        due("there is a copy", x.point(0, 20, 20, 0), Checker.IMPOSSIBLE);
        due("it is a copy", x.point(1, 20, 20, 0), Checker.IMPOSSIBLE);
        x.copy(1);
        x.remove(2);
        x.remove(1);
        due("there is no copy any more", x.point(0, 20, 20, 0), 19);
    }

    private static void removeRenumbers() {
        about("Promise 9: remove", "the numbers of the later ones decrease by 1");
        PantographArm x = threeDrawings();
        x.copy(2);
        x.copy(0);
        x.copy(3);
        due("remove 1", x.remove(1), 5);
        long[] first = new long[5];
        long[] copied = new long[5];
        long[] originals = new long[5];
        for (int number = 0; number < 5; number++) {
            first[number] = x.pointInfo(number, 0, 0);
            copied[number] = x.drawing(number, 1);
            originals[number] = x.drawing(number, 2);
        }
        CHECK.dueAll("which they are", first, 0, 2, 2, 0, 2);
        CHECK.dueAll("what they copy", copied, Checker.MISSING, Checker.MISSING, 1, 0, 2);
        CHECK.dueAll("their originals", originals, 0, 1, 1, 0, 1);
        due("remove the last one", x.remove(4), 4);
        due("no other one changes", x.drawing(3, 1), 0);
        due("remove 3", x.remove(3), 3);
        due("remove the first one", x.remove(0), 2);
        due("what is left", x.pointInfo(0, 0, 0), 2);
        due("and its copy", x.drawing(1, 1), 0);
    }

    private static void removeDrawing() {
        about("Promise 9: remove", "`drawing`: number of the drawing");
        drawingNumber((x, number) -> x.remove(number));
    }

    private static void removeReturns() {
        about("Promise 9: remove", "Returns the number of drawings that remain");
        PantographArm x = with(1, 1, 0);
        for (int i = 1; i < 6; i++) {
            x.copy(0);
        }
        due("copied", x.remove(0), Checker.IMPOSSIBLE);
        for (int i = 5; i > 0; i--) {
            due("copied by " + i, x.remove(0), Checker.IMPOSSIBLE);
            due("remain", x.remove(1), i);
        }
        due("the last one", x.remove(0), 0);
        due("none is left", x.remove(0), Checker.INVALID);
    }

    // ---- 10 and 11: copy, why

    private static void copyDrawing() {
        about("Promise 10: copy", "`drawing`: number of the drawing");
        drawingNumber((x, number) -> x.copy(number));
    }

    private static void copyReturns() {
        about("Promise 10: copy", "INVALID_ARGUMENT; NOT_POSSIBLE if it cannot be copied.");
        PantographArm x = with(0, 0, 0, 900, 0, 1);
        x.draw();
        due("no points", x.copy(1), Checker.IMPOSSIBLE);
        due("the first", x.copy(0), 2);
        due("blunt", x.copy(0), Checker.IMPOSSIBLE);
        x.sharpen();
        x.arm(1, 20);
        due("a copy of the copy", x.copy(2), 3);
        due("a copy of that", x.copy(3), 4);
        due("the last one", x.copy(0), 5);
        due("a seventh", x.copy(0), Checker.IMPOSSIBLE);
        due("none", x.copy(6), Checker.INVALID);
        x.remove(5);
        x.remove(1);
        x.copy(3);
        due("too fine", x.copy(4), Checker.IMPOSSIBLE);
        due("there are five", x.count(0), 5);
    }

    private static void whyDrawing() {
        about("Promise 11: why", "`drawing`: number of the drawing");
        drawingNumber((x, number) -> x.why(number));
    }

    private static void whyReturns() {
        about("Promise 11: why", "Returns the reason, 0 if it can; INVALID_ARGUMENT.");
        PantographArm x = with(0, 0, 0, 900, 0, 1);
        x.draw();
        long[] before = counts(x);
        due("it can", x.why(0), 0);
        due("it can still", x.why(0), 0);
        due("no points", x.why(1), 1);
        due("none", x.why(2), Checker.INVALID);
        CHECK.dueAll("asking changes nothing", counts(x), before);
        x.copy(0);
        due("blunt", x.why(0), 2);
        x.sharpen();
        x.arm(1, 20);
        x.copy(2);
        x.copy(3);
        x.copy(4);
        due("six", x.why(0), 3);
        x.remove(1);
        due("too fine", x.why(4), 4);
        due("it can", x.why(3), 0);
    }

    // ---- 12: drawing

    private static void drawingDrawing() {
        about("Promise 12: drawing", "`drawing`: number of the drawing");
        for (int what = 0; what < 12; what++) {
            int asked = what == 1 ? 0 : what;
            drawingNumber((x, number) -> x.drawing(number, asked));
        }
        due("1 of none", new PantographArm().drawing(0, 1), Checker.INVALID);
    }

    private static void drawingWhat() {
        about("Promise 12: drawing", "`what`: 0: its points; 1: the drawing of which it is a copy");
        PantographArm x = with(1, 1, 0);
        original(x, 10, 10, 0, 13, 14, 1, 13, 15, 0, 30, 40, 1, 200, 200, 1);
        x.set(0, 1);
        x.pivot(100, 100);
        x.copy(1);
        x.set(0, 2);
        x.arm(1, 2);
        x.set(4, 50);
        x.copy(2);
        CHECK.dueAll("an original", properties(x, 1),
            5, Checker.MISSING, 1, 0, 1, 1, 3, 379, 1, 0, Float.floatToIntBits(1f), 10);
        CHECK.dueAll("a copy", properties(x, 2),
            5, 1, 1, 1, -1, -1, 3, 379, 1, 0, Float.floatToIntBits(1f), 10);
        CHECK.dueAll("a copy of it", properties(x, 3),
            5, 2, 1, 2, 1, -1, 3, 189, 9, 0, Float.floatToIntBits(0.5f), 5);
    }

    private static void drawingWithoutLines() {
        about("Promise 12: drawing", "8: the greatest width of them, 0 if there are none");
        PantographArm x = with(0, 0, 0, 20, 0, 0, 30, 0, 1);
        x.draw();
        due("no points", x.drawing(1, 8), 0);
        x.point(1, 5, 5, 1);
        due("one point", x.drawing(1, 8), 0);
        x.point(1, 6, 6, 0);
        due("two that are not joined", x.drawing(1, 8), 0);
        due("no lines", x.drawing(1, 6), 0);
        due("no length", x.drawing(1, 7), 0);
        x.set(2, 10);
        x.copy(0);
        due("the line is left out", x.drawing(2, 8), 0);
        due("no lines", x.drawing(2, 6), 0);
        due("no length", x.drawing(2, 7), 0);
        original(x, 0, 0, 0, 10, 0, 1, 0, 0, 1, 10, 0, 0, 9, 0, 1);
        x.set(4, 5);
        x.copy(3);
        CHECK.dueAll("not the last one, the greatest", ofPoints(x, 4, 5), 0, 1, 3, 0, 5);
        due("the greatest", x.drawing(4, 8), 5);
        x.set(2, 1000);
        x.sharpen();
        x.copy(0);
        due("width 1", x.drawing(5, 8), 1);
    }

    private static void drawingOnBoardNow() {
        about("Promise 12: drawing", "9: points that are not on the board, as it is now");
        PantographArm x = with(10, 10, 0, 11, 10, 1, 10, 11, 0, 1000, 1000, 0);
        x.copy(0);
        int[][] boards = {{1000, 1000, 0}, {999, 1000, 1}, {1000, 999, 1}, {11, 10, 2}, {10, 11, 2}, {11, 11, 1},
            {10, 10, 3}};
        for (int[] board : boards) {
            x.set(2, board[0]);
            x.set(3, board[1]);
            due("of the original", x.drawing(0, 9), board[2]);
            due("of the copy", x.drawing(1, 9), board[2]);
            due("its line stays", x.drawing(1, 6), 1);
        }
        due("without points", emptyOne().drawing(0, 9), 0);
    }

    private static PantographArm emptyOne() {
        PantographArm x = new PantographArm();
        x.set(2, 10);
        x.draw();
        return x;
    }

    private static void drawingFloats() {
        about("Promise 12: drawing", "10: the bits of its ratio as a float");
        int[][] chains = {{1, 1}, {2, 1}, {1, 2}, {1, 3}, {2, 3}, {20, 19, 20, 19, 17, 13}, {19, 20, 7, 11, 13, 17},
            {20, 1, 20, 1, 10, 1, 5, 1, 5, 1}, {1, 20, 1, 20, 1, 10, 1, 5, 1, 5}, {16, 1, 16, 1, 16, 1, 16, 1},
            {1, 16, 1, 16, 1, 16, 1, 16}, {19, 1, 19, 1, 19, 7, 13, 1, 1, 11}, {1, 19, 1, 19, 7, 19, 1, 13, 11, 1}};
        for (int[] arms : chains) {
            PantographArm x = with(0, 0, 0);
            chain(x, arms);
            int last = arms.length / 2;
            float ratio = (float) x.ratio(last, 0) / (float) x.ratio(last, 1);
            due("bits of " + ratio, x.drawing(last, 10), Float.floatToIntBits(ratio));
            due("ten times " + ratio, x.drawing(last, 11), (int) (ratio * (float) 10));
        }
        PantographArm x = with(0, 0, 0);
        chain(x, 1, 20, 1, 20);
        due("ten times 1 / 20, rounded down", x.drawing(1, 11), 0);
        due("ten times 1 / 400, rounded down", x.drawing(2, 11), 0);
        due("bits of 1 / 400", x.drawing(2, 10), Float.floatToIntBits(1f / 400f));
    }

    private static void drawingReturns() {
        about("Promise 12: drawing", "NOT_FOUND for 1 if it is an original");
        range(0, 11, what -> with(1, 1, 0).drawing(0, what));
        due("1 of an original", with(1, 1, 0).drawing(0, 1), Checker.MISSING);
        due("1 of one without points", with().drawing(0, 1), Checker.MISSING);
        PantographArm x = with(1, 1, 0);
        x.copy(0);
        due("1 of a copy of the drawing 0", x.drawing(1, 1), 0);
        due("1 of no drawing", x.drawing(2, 1), Checker.INVALID);
    }

    // ---- 13 to 15: ratio, pointInfo, atOnce

    private static void ratioDrawing() {
        about("Promise 13: ratio", "`drawing`: number of the drawing");
        drawingNumber((x, number) -> x.ratio(number, 0));
        drawingNumber((x, number) -> x.ratio(number, 1));
    }

    private static void ratioPart() {
        about("Promise 13: ratio", "`part`: 0 or 1");
        range(0, 1, part -> with().ratio(0, part));
    }

    private static void ratioReturns() {
        about("Promise 13: ratio", "Returns the part of the fraction");
        PantographArm x = with(1, 1, 0);
        chain(x, 1, 20, 20, 16, 16, 1);
        int[][] parts = {{1, 1}, {1, 20}, {1, 16}, {1, 1}};
        for (int number = 0; number < 4; number++) {
            due("numerator", x.ratio(number, 0), parts[number][0]);
            due("denominator", x.ratio(number, 1), parts[number][1]);
        }
        due("no part", x.ratio(3, 2), Checker.INVALID);
        due("no drawing", x.ratio(4, 0), Checker.INVALID);
    }

    private static void pointInfoDrawing() {
        about("Promise 14: pointInfo", "`drawing`: number of the drawing");
        drawingNumber((x, number) -> x.pointInfo(number, 0, 0));
        drawingNumber((x, number) -> x.pointInfo(number, 0, 6));
    }

    private static void pointInfoPoint() {
        about("Promise 14: pointInfo", "`point`: number of the point");
        range(0, 2, point -> with(1, 1, 0, 2, 2, 1, 3, 3, 0).pointInfo(0, point, 0));
        range(0, 0, point -> with(1, 1, 0).pointInfo(0, point, 5));
        due("of none", with().pointInfo(0, 0, 0), Checker.INVALID);
        PantographArm x = withText(manyPoints(20) + ".");
        x.read();
        range(0, 19, point -> x.pointInfo(0, point, 4));
    }

    private static void pointInfoWhat() {
        about("Promise 14: pointInfo", "0 if it is not joined or the line was left out");
        PantographArm x = with(0, 0, 0, 30, 15, 1, 30, 60, 1, 20, 60, 0, 20, 20, 1);
        x.arm(1, 2);
        x.set(3, 20);
        x.set(4, 10);
        x.copy(0);
        long[][] due = {{0, 1, 0, 1, 0, 0, 0}, {15, 1, 15, 2, 1, 1, 22}, {15, 1, 30, 1, 1, 0, 0},
            {10, 1, 30, 1, 0, 0, 0}, {10, 1, 10, 1, 1, 0, 0}};
        for (int point = 0; point < 5; point++) {
            long[] told = new long[7];
            for (int what = 0; what < 7; what++) {
                told[what] = x.pointInfo(1, point, what);
            }
            CHECK.dueAll("point " + point, told, due[point]);
        }
    }

    private static void pointInfoReturns() {
        about("Promise 14: pointInfo", "INVALID_ARGUMENT if an argument is out of range");
        range(0, 6, what -> with(1, 1, 0).pointInfo(0, 0, what));
        due("what of no point", with(1, 1, 0).pointInfo(0, 1, 7), Checker.INVALID);
    }

    private static void atOnceDrawing() {
        about("Promise 15: atOnce", "`drawing`: number of the drawing");
        drawingNumber((x, number) -> x.atOnce(number, 0, 0));
        drawingNumber((x, number) -> x.atOnce(number, 0, 3));
    }

    private static void atOncePoint() {
        about("Promise 15: atOnce", "`point`: number of the point");
        range(0, 2, point -> with(1, 1, 0, 2, 2, 1, 3, 3, 0).atOnce(0, point, 0));
        range(0, 0, point -> with(1, 1, 0).atOnce(0, point, 1));
        due("of none", with().atOnce(0, 0, 0), Checker.INVALID);
        PantographArm x = withText(manyPoints(20) + ".");
        x.read();
        x.copy(0);
        range(0, 19, point -> x.atOnce(1, point, 2));
    }

    private static void atOnceWhat() {
        about("Promise 15: atOnce", "`what`: 0 and 1: numerator and denominator of x; 2 and 3: those of y");
        PantographArm x = with(10, 21, 0);
        chain(x, 3, 4);
        CHECK.dueAll("each by its number", placeAtOnce(x, 1, 0), 15, 2, 63, 4);
        range(0, 3, what -> x.atOnce(1, 0, what));
    }

    private static void atOnceReturns() {
        about("Promise 15: atOnce", "INVALID_ARGUMENT if an argument is out of range");
        range(0, 3, what -> with(1, 1, 0).atOnce(0, 0, what));
        due("what of no point", with(1, 1, 0).atOnce(0, 1, 4), Checker.INVALID);
    }

    // ---- 16 and 17: alike, armFor

    private static void alikeCounts() {
        about("Promise 16: alike", "how many points of two drawings with the same number are at the same place");
        PantographArm x = with(1, 1, 0, 2, 2, 1, 3, 3, 0);
        // Its last point has none with the same number in the first drawing, not even at (0, 0).
        original(x, 1, 1, 0, 2, 3, 0, 4, 3, 0, 0, 0, 0);
        original(x, 2, 2, 0, 3, 3, 0, 1, 1, 0);
        x.draw();
        due("itself", x.alike(0, 0), 3);
        due("x and y, though not joined alike", x.alike(0, 1), 1);
        due("the other way round", x.alike(1, 0), 1);
        due("with other numbers", x.alike(0, 2), 0);
        due("with one without points", x.alike(0, 3), 0);
        due("one without points, itself", x.alike(3, 3), 0);
        due("without it", x.remove(3), 3);
        chain(x, 1, 3, 3, 1);
        due("thirds", x.alike(2, 3), 0);
        due("thirds three times", x.alike(2, 4), 3);
        due("of different parts", x.alike(4, 2), 3);
    }

    /** About the pivot (6, 9) a third: of these places it leaves both, x, y and neither as they are. */
    private static void alikeAtSamePlace() {
        about("Promise 16: alike", "are at the same place");
        PantographArm x = with(6, 9, 0, 6, 12, 0, 9, 9, 0, 9, 12, 0);
        x.pivot(6, 9);
        chain(x, 1, 3);
        due("both alone", x.alike(0, 1), 1);
        due("the other way round", x.alike(1, 0), 1);
        original(x, 6, 9, 0, 6, 10, 0, 7, 9, 0, 7, 10, 0);
        due("where it came to", x.alike(1, 2), 4);
        due("the other way round", x.alike(2, 1), 4);
        original(x, 0, 0, 0, 6, 30, 0, 21, 9, 0, 21, 30, 0);
        due("three times as far", x.alike(1, 3), 0);
        due("the other way round", x.alike(3, 1), 0);
    }

    private static void alikeOne() {
        about("Promise 16: alike", "`one`: number of a drawing");
        drawingNumber((x, number) -> x.alike(number, 0));
    }

    private static void alikeOther() {
        about("Promise 16: alike", "`other`: number of a drawing");
        drawingNumber((x, number) -> x.alike(0, number));
    }

    private static void alikeReturns() {
        about("Promise 16: alike", "Returns the number; INVALID_ARGUMENT.");
        PantographArm x = withText(manyPoints(20) + ".");
        x.read();
        x.copy(0);
        due("all", x.alike(0, 1), 20);
        due("neither", x.alike(2, 2), Checker.INVALID);
        due("not the other", x.alike(1, 2), Checker.INVALID);
        due("not the one", x.alike(-1, 1), Checker.INVALID);
    }

    private static void armForLeast() {
        about("Promise 17: armFor", "the least a, then the least b");
        PantographArm x = with(1, 1, 0);
        chain(x, 18, 12, 16, 8, 5, 15);
        due("1, not 20 / 20", x.armFor(0, 0), 101);
        due("3 / 2, not 18 / 12", x.armFor(1, 0), 302);
        due("2 / 3, the other way round", x.armFor(0, 1), 203);
        due("2, not 16 / 8", x.armFor(2, 1), 201);
        due("3", x.armFor(2, 0), 301);
        due("1 / 3, not 5 / 15", x.armFor(3, 2), 103);
        due("back at 1", x.armFor(3, 0), 101);
        due("itself", x.armFor(2, 2), 101);
    }

    private static void armForOne() {
        about("Promise 17: armFor", "`one`: number of a drawing");
        drawingNumber((x, number) -> x.armFor(number, 0));
    }

    private static void armForOther() {
        about("Promise 17: armFor", "`other`: number of a drawing");
        drawingNumber((x, number) -> x.armFor(0, number));
    }

    private static void armForReturns() {
        about("Promise 17: armFor", "NOT_FOUND if there is no such arm with a and b from 1 to 20");
        PantographArm x = with(1, 1, 0);
        chain(x, 20, 19, 1, 20, 7, 1, 3, 1);
        due("20 / 19", x.armFor(1, 0), 2019);
        due("19 / 20", x.armFor(0, 1), 1920);
        due("1 / 20", x.armFor(2, 1), 120);
        due("20", x.armFor(1, 2), 2001);
        due("21", x.armFor(4, 2), Checker.MISSING);
        due("1 / 21", x.armFor(2, 4), Checker.MISSING);
        due("21 / 20", x.armFor(4, 1), Checker.MISSING);
        due("20 / 21", x.armFor(1, 4), Checker.MISSING);
        due("21 / 19", x.armFor(4, 0), Checker.MISSING);
        due("none", x.armFor(5, 0), Checker.INVALID);
        due("none", x.armFor(0, 5), Checker.INVALID);
    }
}
