/** The boundaries under "Terms", "Drawings" and "Arm", a test for each. */
final class EdgesOfDrawings extends Edges {
    static void all() {
        divisionsRoundDown();
        lowestTerms();
        denominatorAboveZero();
        zeroIsZeroOverOne();
        atMostSixDrawings();
        sixOfTheirOwn();
        numberedFromZero();
        originalOrCopy();
        atMostTwentyPoints();
        firstPointIsNotJoined();
        placesOfOriginals();
        ratioAboveZero();
        allAreOneForAnOriginal();
        aAndB();
        toldAsSet();
        pivotRange();
        kindRange();
        playRange();
        signsOfKinds();
        aimExactly();
        tracedInOrder();
        firstComesToItsAim();
        playUpwards();
        playDownwards();
        staysWithinPlay();
        noPlay();
        xAndYByThemselves();
        playOfThirds();
        liftedWhereNotJoined();
        joinedAsTraced();
        ratioOfCopy();
        signsOfCopy();
    }

    // ---- Terms

    private static void divisionsRoundDown() {
        about("Terms", "divisions are rounded down");
        PantographArm x = with(0, 0, 0, 99, 0, 1, 199, 0, 1, 200, 0, 1, 399, 0, 1, 399, 1, 1);
        x.copy(0);
        CHECK.dueAll("1 + 0, 99, 199, 200, 399 / 100", ofPoints(x, 1, 5), 0, 1, 1, 2, 3, 4);
        PantographArm y = with(0, 0, 0, 1, 0, 1, 3, 0, 1, 6, 0, 1);
        y.arm(1, 2);
        y.copy(0);
        CHECK.dueAll("1 / 2, 1, 3 / 2", ofPoints(y, 1, 6), 0, 0, 1, 1);
    }

    private static void lowestTerms() {
        about("Terms", "in lowest terms");
        PantographArm x = with(10, 15, 0, 3, 20, 1, 16, 12, 0);
        x.arm(2, 20);
        x.copy(0);
        CHECK.dueAll("1 and 3 / 2", place(x, 1, 0), 1, 1, 3, 2);
        CHECK.dueAll("3 / 10 and 2", place(x, 1, 1), 3, 10, 2, 1);
        CHECK.dueAll("8 / 5 and 6 / 5 at once", placeAtOnce(x, 1, 2), 8, 5, 6, 5);
        due("1 of 2 / 20", x.ratio(1, 0), 1);
        due("10 of 2 / 20", x.ratio(1, 1), 10);
    }

    private static void denominatorAboveZero() {
        about("Terms", "the denominator being above 0");
        PantographArm x = with(4, 12, 0);
        x.arm(3, 8);
        x.set(0, 1);
        x.copy(0);
        CHECK.dueAll("-3 / 2 and -9 / 2", place(x, 1, 0), -3, 2, -9, 2);
        CHECK.dueAll("at once", placeAtOnce(x, 1, 0), -3, 2, -9, 2);
        due("of the ratio", x.ratio(1, 1), 8);
    }

    private static void zeroIsZeroOverOne() {
        about("Terms", "(0 is 0 / 1)");
        PantographArm x = with(0, 0, 0);
        chain(x, 1, 20, 3, 19);
        CHECK.dueAll("0 of 380 parts", place(x, 2, 0), 0, 1, 0, 1);
        CHECK.dueAll("at once", placeAtOnce(x, 2, 0), 0, 1, 0, 1);
        PantographArm y = with(5, 5, 0);
        y.arm(1, 4);
        y.pivot(1, 1);
        y.set(0, 1);
        y.copy(0);
        CHECK.dueAll("1 - 1 / 4 * 4", place(y, 1, 0), 0, 1, 0, 1);
        CHECK.dueAll("at once", placeAtOnce(y, 1, 0), 0, 1, 0, 1);
    }

    // ---- Drawings

    private static void atMostSixDrawings() {
        about("Drawings", "There are at most 6 drawings");
        PantographArm drawn = new PantographArm();
        PantographArm read = withText("1,1.");
        PantographArm copied = with(1, 1, 0);
        for (int i = 0; i < 6; i++) {
            due("draw", drawn.draw(), i);
            due("read", read.read(), i);
            due("copy", i == 0 ? 0 : copied.copy(0), i);
        }
        due("a seventh that is drawn", drawn.draw(), Checker.LIMIT);
        due("a seventh that is read", read.read(), Checker.LIMIT);
        due("a seventh that is copied", copied.copy(0), Checker.IMPOSSIBLE);
        due("six drawn", drawn.count(0), 6);
        due("six read", read.count(0), 6);
        due("six copied", copied.count(0), 6);
        drawn.remove(5);
        due("room again", drawn.draw(), 5);
    }

    private static void sixOfTheirOwn() {
        about("Drawings", "There are at most 6 drawings, numbered");
        for (int removed = 0; removed < 3; removed++) {
            PantographArm x = threeDrawings();
            x.remove(removed);
            for (int i = 2; i < 6; i++) {
                due("filled up again", original(x, 100 * i, i, 0, i, i, 1), i);
            }
            for (int i = 2; i < 6; i++) {
                CHECK.dueAll("points of " + i, ofPoints(x, i, 0), 100 * i, i);
            }
            due("what was left ahead of them", x.drawing(0, 0) + x.drawing(1, 0), 2);
        }
    }

    private static void numberedFromZero() {
        about("Drawings", "drawings, numbered from 0.");
        PantographArm x = new PantographArm();
        due("none", x.drawing(0, 0), Checker.INVALID);
        due("the first", x.draw(), 0);
        due("it is there", x.drawing(0, 0), 0);
        due("the second is not", x.drawing(1, 0), Checker.INVALID);
        due("none is -1", x.drawing(-1, 0), Checker.INVALID);
    }

    private static void originalOrCopy() {
        about("Drawings", "A drawing is an original, or a copy of another one.");
        PantographArm x = with(1, 1, 0);
        chain(x, 1, 2, 1, 3);
        due("an original of none", x.drawing(0, 1), Checker.MISSING);
        due("a copy of an original", x.drawing(1, 1), 0);
        due("a copy of a copy", x.drawing(2, 1), 1);
    }

    private static void atMostTwentyPoints() {
        about("Drawings", "It has at most 20 points, numbered from 0");
        PantographArm x = with();
        for (int i = 0; i < 20; i++) {
            due("point", x.point(0, 10 * i, 1, 1), i);
        }
        due("a 21st", x.point(0, 1, 1, 1), Checker.LIMIT);
        due("twenty", x.drawing(0, 0), 20);
        due("the first", x.pointInfo(0, 0, 0), 0);
        due("the last", x.pointInfo(0, 19, 0), 190);
        due("none behind it", x.pointInfo(0, 20, 0), Checker.INVALID);
        due("none ahead", x.pointInfo(0, -1, 0), Checker.INVALID);
        due("copy", x.copy(0), 1);
        due("twenty of the copy", x.drawing(1, 0), 20);
        due("the last of the copy", x.pointInfo(1, 19, 0), 190);
        due("none behind it", x.pointInfo(1, 20, 0), Checker.INVALID);
        due("lines", x.drawing(1, 6), 19);
        noFault(manyPoints(20) + ".", 20);
    }

    private static void firstPointIsNotJoined() {
        about("Drawings", "(the first one is not)");
        PantographArm x = with(5, 6, 1, 7, 8, 1);
        due("told as joined", x.pointInfo(0, 0, 4), 0);
        due("its line has no width", x.pointInfo(0, 0, 5), 0);
        due("nor a length", x.pointInfo(0, 0, 6), 0);
        due("one line", x.drawing(0, 6), 1);
        chain(x, 1, 1, 1, 1);
        due("of a copy", x.pointInfo(1, 0, 4), 0);
        due("of a copy of it", x.pointInfo(2, 0, 4), 0);
        due("lines that the copies drew", x.count(13), 2);
        PantographArm y = withText("1,2-3,4.");
        y.read();
        due("read", y.pointInfo(0, 0, 4), 0);
        due("the second is", y.pointInfo(0, 1, 4), 1);
    }

    private static void placesOfOriginals() {
        about("Drawings", "Those of originals are whole numbers from 0 to 1000.");
        PantographArm x = with(0, 1000, 0, 1000, 0, 1);
        CHECK.dueAll("0, 1000", place(x, 0, 0), 0, 1, 1000, 1);
        CHECK.dueAll("1000, 0", place(x, 0, 1), 1000, 1, 0, 1);
        due("x -1", x.point(0, -1, 0, 0), Checker.INVALID);
        due("x 1001", x.point(0, 1001, 0, 0), Checker.INVALID);
        due("y -1", x.point(0, 0, -1, 0), Checker.INVALID);
        due("y 1001", x.point(0, 0, 1001, 0), Checker.INVALID);
        due("points", x.drawing(0, 0), 2);
        PantographArm y = withText("1000,0-0000,1000.");
        y.read();
        CHECK.dueAll("1000, 0 read", place(y, 0, 0), 1000, 1, 0, 1);
        CHECK.dueAll("0, 1000 read", place(y, 0, 1), 0, 1, 1000, 1);
    }

    private static void ratioAboveZero() {
        about("Drawings", "a fraction above 0");
        for (int kind = 0; kind <= 2; kind++) {
            PantographArm x = with(1, 1, 0);
            x.set(0, kind);
            chain(x, 1, 20, 20, 1);
            due("numerator of 1 / 20", x.ratio(1, 0), 1);
            due("denominator of 1 / 20", x.ratio(1, 1), 20);
            due("numerator of 1", x.ratio(2, 0), 1);
            due("denominator of 1", x.ratio(2, 1), 1);
        }
    }

    private static void allAreOneForAnOriginal() {
        about("Drawings", "all are 1 for an original");
        PantographArm x = withText("1,1.");
        x.arm(3, 7);
        x.set(0, 1);
        x.draw();
        x.read();
        for (int number = 0; number < 2; number++) {
            due("numerator", x.ratio(number, 0), 1);
            due("denominator", x.ratio(number, 1), 1);
            due("sign of x", x.drawing(number, 4), 1);
            due("sign of y", x.drawing(number, 5), 1);
        }
        x.copy(1);
        x.remove(2);
        due("behind a copy that was removed", x.draw(), 2);
        due("numerator", x.ratio(2, 0), 1);
        due("denominator", x.ratio(2, 1), 1);
        due("sign of x", x.drawing(2, 4), 1);
        due("sign of y", x.drawing(2, 5), 1);
    }

    // ---- Arm

    private static void aAndB() {
        about("Arm", "a and b 1 to 20, at first 1 / 1");
        due("a at first", new PantographArm().count(1), 1);
        due("b at first", new PantographArm().count(2), 1);
        range(1, 20, a -> new PantographArm().arm(a, 20));
        range(1, 20, b -> new PantographArm().arm(1, b));
        PantographArm x = with(7, 9, 0);
        x.copy(0);
        CHECK.dueAll("copied one to one at first", place(x, 1, 0), 7, 1, 9, 1);
    }

    private static void toldAsSet() {
        about("Arm", "told as it was set");
        PantographArm x = new PantographArm();
        x.arm(20, 20);
        due("a of 20 / 20", x.count(1), 20);
        due("b of 20 / 20", x.count(2), 20);
        due("the previous one is 20 / 20", x.arm(6, 4), 2020);
        due("the previous one is 6 / 4", x.arm(1, 1), 604);
    }

    private static void pivotRange() {
        about("Arm", "a pivot (px, py) (0 to 1000 each, at first 0 and 0)");
        due("px at first", new PantographArm().count(3), 0);
        due("py at first", new PantographArm().count(4), 0);
        range(0, 1000, px -> new PantographArm().pivot(px, 1000));
        range(0, 1000, py -> new PantographArm().pivot(0, py));
    }

    private static void kindRange() {
        about("Arm", "0 straight (at first), 1 turned, 2 mirrored");
        due("at first", new PantographArm().count(5), 0);
        range(0, 2, kind -> new PantographArm().set(0, kind));
    }

    private static void playRange() {
        about("Arm", "and a play (0 to 50, at first 0)");
        due("at first", new PantographArm().count(6), 0);
        range(0, 50, play -> new PantographArm().set(1, play));
        PantographArm x = with(0, 0, 0, 1, 0, 1);
        x.copy(0);
        due("no lag at first", x.pointInfo(1, 1, 0), 1);
    }

    private static void signsOfKinds() {
        about("Arm", "1 and 1 for straight, -1 and -1 for turned, -1 and 1 for mirrored");
        int[][] signs = {{1, 1}, {-1, -1}, {-1, 1}};
        for (int kind = 0; kind < 3; kind++) {
            PantographArm x = with(103, 205, 0);
            x.pivot(100, 200);
            x.set(0, kind);
            x.copy(0);
            due("sign of x", x.drawing(1, 4), signs[kind][0]);
            due("sign of y", x.drawing(1, 5), signs[kind][1]);
            CHECK.dueAll("place", place(x, 1, 0), 100 + 3 * signs[kind][0], 1, 200 + 5 * signs[kind][1], 1);
        }
    }

    private static void aimExactly() {
        about("Arm", "exactly.");
        PantographArm x = with(1, 0, 0, 0, 1, 0, 1000, 999, 0);
        x.arm(1, 3);
        x.pivot(0, 1000);
        x.copy(0);
        CHECK.dueAll("1 / 3 and 2000 / 3", place(x, 1, 0), 1, 3, 2000, 3);
        CHECK.dueAll("0 and 2001 / 3", place(x, 1, 1), 0, 1, 667, 1);
        CHECK.dueAll("1000 / 3 and 2999 / 3", place(x, 1, 2), 1000, 3, 2999, 3);
        PantographArm far = with(1000, 0, 0);
        far.pivot(0, 1000);
        far.set(0, 1);
        chain(far, 20, 1, 20, 1, 20, 1, 12, 1);
        CHECK.dueAll("far", place(far, 4, 0), 96000000, 1, -95999000, 1);
        CHECK.dueAll("far at once", placeAtOnce(far, 4, 0), 96000000, 1, -95999000, 1);
    }

    private static void tracedInOrder() {
        about("Arm", "its points are traced in their order");
        PantographArm x = with(0, 0, 0, 21, 0, 1, 0, 0, 1, 100, 0, 1);
        x.set(1, 10);
        x.copy(0);
        CHECK.dueAll("0, 11, 10, 90", ofPoints(x, 1, 0), 0, 11, 10, 90);
    }

    private static void firstComesToItsAim() {
        about("Arm", "The pencil comes to the aim of the first point.");
        PantographArm x = with(40, 30, 1, 41, 30, 1);
        x.set(1, 50);
        x.copy(0);
        CHECK.dueAll("not lagging", place(x, 1, 0), 40, 1, 30, 1);
        x.arm(20, 1);
        x.copy(0);
        CHECK.dueAll("wherever the pencil was", place(x, 2, 0), 800, 1, 600, 1);
    }

    private static void playUpwards() {
        about("Arm", "comes to t - play, if t is greater than q + play");
        // In twentieths: q is 0, 0 and 50 / 20, the play 20 / 20.
        PantographArm x = with(0, 0, 0, 20, 20, 1, 21, 21, 1);
        x.arm(1, 20);
        x.set(1, 1);
        x.copy(0);
        CHECK.dueAll("t is q + play", place(x, 1, 1), 0, 1, 0, 1);
        CHECK.dueAll("t is a twentieth more", place(x, 1, 2), 1, 20, 1, 20);
        PantographArm most = with(0, 0, 0, 50, 50, 1, 51, 51, 1);
        most.set(1, 50);
        most.copy(0);
        CHECK.dueAll("t is q + 50", place(most, 1, 1), 0, 1, 0, 1);
        CHECK.dueAll("t is q + 51", place(most, 1, 2), 1, 1, 1, 1);
    }

    private static void playDownwards() {
        about("Arm", "to t + play, if t is less than q - play");
        PantographArm x = with(40, 40, 0, 20, 20, 1, 19, 19, 1);
        x.arm(1, 20);
        x.set(1, 1);
        x.copy(0);
        CHECK.dueAll("t is q - play", place(x, 1, 1), 2, 1, 2, 1);
        CHECK.dueAll("t is a twentieth less", place(x, 1, 2), 39, 20, 39, 20);
        PantographArm most = with(100, 100, 0, 50, 50, 1, 49, 49, 1);
        most.set(1, 50);
        most.copy(0);
        CHECK.dueAll("t is q - 50", place(most, 1, 1), 100, 1, 100, 1);
        CHECK.dueAll("t is q - 51", place(most, 1, 2), 99, 1, 99, 1);
    }

    private static void staysWithinPlay() {
        about("Arm", "and otherwise stays at q");
        PantographArm x = with(10, 10, 0, 15, 5, 1, 5, 15, 1, 10, 10, 1, 16, 4, 1, 6, 14, 1, 5, 15, 1);
        x.set(1, 5);
        x.copy(0);
        CHECK.dueAll("x", ofPoints(x, 1, 0), 10, 10, 10, 10, 11, 11, 10);
        CHECK.dueAll("y", ofPoints(x, 1, 2), 10, 10, 10, 10, 9, 9, 10);
        CHECK.dueAll("lines of length 0", ofPoints(x, 1, 6), 0, 0, 0, 0, 2, 0, 2);
        due("they are drawn", x.count(13), 6);
    }

    private static void noPlay() {
        about("Arm", "with the place q of the pencil and the aim t");
        PantographArm x = with(10, 10, 0, 11, 9, 1, 11, 9, 1, 10, 10, 1);
        x.copy(0);
        CHECK.dueAll("x without play", ofPoints(x, 1, 0), 10, 11, 11, 10);
        CHECK.dueAll("y without play", ofPoints(x, 1, 2), 10, 9, 9, 10);
    }

    private static void xAndYByThemselves() {
        about("Arm", "for x and y by themselves: with");
        PantographArm x = with(10, 10, 0, 20, 12, 1, 18, 30, 1);
        x.set(1, 3);
        x.copy(0);
        CHECK.dueAll("x comes along, y stays", place(x, 1, 1), 17, 1, 10, 1);
        CHECK.dueAll("y comes along, x stays", place(x, 1, 2), 17, 1, 27, 1);
    }

    private static void playOfThirds() {
        about("Arm", "For each further point");
        PantographArm x = with(0, 0, 0, 10, 10, 1, 0, 20, 1);
        x.arm(1, 3);
        x.set(1, 2);
        x.copy(0);
        CHECK.dueAll("10 / 3 - 2", place(x, 1, 1), 4, 3, 4, 3);
        CHECK.dueAll("0 is within the play, 20 / 3 - 2", place(x, 1, 2), 4, 3, 14, 3);
    }

    private static void liftedWhereNotJoined() {
        about("Arm", "Where a point is not joined to the one before, the pencil is lifted");
        PantographArm x = with(10, 10, 0, 40, 20, 0, 45, 25, 1, 41, 21, 0);
        x.set(1, 50);
        x.copy(0);
        CHECK.dueAll("to the aim itself, though within the play", place(x, 1, 1), 40, 1, 20, 1);
        CHECK.dueAll("joined again", place(x, 1, 2), 40, 1, 20, 1);
        CHECK.dueAll("lifted again", place(x, 1, 3), 41, 1, 21, 1);
    }

    private static void joinedAsTraced() {
        about("Arm", "they are joined as those that are traced");
        PantographArm x = with(0, 0, 1, 5, 5, 1, 900, 9, 0, 910, 9, 1, 0, 0, 0);
        x.set(2, 10);
        chain(x, 1, 1, 1, 2);
        for (int number = 0; number < 3; number++) {
            CHECK.dueAll("joined", ofPoints(x, number, 4), 0, 1, 0, 1, 0);
        }
    }

    private static void ratioOfCopy() {
        about("Arm", "The ratio of the copy is that of the drawing times a / b");
        PantographArm x = with(1, 1, 0);
        chain(x, 20, 20, 19, 20, 20, 19);
        CHECK.dueAll("20 / 20", new long[] {x.ratio(1, 0), x.ratio(1, 1)}, 1, 1);
        CHECK.dueAll("19 / 20", new long[] {x.ratio(2, 0), x.ratio(2, 1)}, 19, 20);
        CHECK.dueAll("19 / 20 * 20 / 19", new long[] {x.ratio(3, 0), x.ratio(3, 1)}, 1, 1);
    }

    private static void signsOfCopy() {
        about("Arm", "its signs are those of the drawing times those of the arm");
        int[][] signs = {{1, 1}, {-1, -1}, {-1, 1}};
        for (int first = 0; first < 3; first++) {
            for (int second = 0; second < 3; second++) {
                PantographArm x = with(1, 1, 0);
                x.set(0, first);
                x.copy(0);
                x.set(0, second);
                x.copy(1);
                due("sign of x", x.drawing(2, 4), signs[first][0] * signs[second][0]);
                due("sign of y", x.drawing(2, 5), signs[first][1] * signs[second][1]);
            }
        }
    }
}
