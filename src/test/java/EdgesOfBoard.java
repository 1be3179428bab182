/** The boundaries under "Board, pencil", a test for each. */
final class EdgesOfBoard extends Edges {
    static void all() {
        widthOfBoard();
        heightOfBoard();
        upperBorders();
        lowerBorders();
        borderOfThousand();
        drawnIfBothOnBoard();
        bordersBelongToLines();
        boardOfTheCopying();
        pointsOffBoardArePoints();
        lengthOfBothTogether();
        lengthIsAbsolute();
        wearAtFirst();
        softRange();
        widthByTheWearAhead();
        widthAtMostNine();
        widthAtMostNineSoft();
        wearGrowsByLength();
        bluntAboveNine();
        bluntBySoft();
        sharpenedTenTimes();
        wearIsZeroThen();
        linesOfOriginals();
    }

    private static void widthOfBoard() {
        about("Board, pencil", "W and H 10 to 1000");
        range(10, 1000, w -> new PantographArm().set(2, w));
    }

    private static void heightOfBoard() {
        about("Board, pencil", "at first 1000 both");
        due("W", new PantographArm().count(7), 1000);
        due("H", new PantographArm().count(8), 1000);
        range(10, 1000, h -> new PantographArm().set(3, h));
        due("all of an original is on it", with(1000, 1000, 0, 0, 0, 1).drawing(0, 9), 0);
    }

    private static void upperBorders() {
        about("Board, pencil", "borders included");
        PantographArm x = with(200, 200, 0, 201, 200, 0, 200, 201, 0, 201, 201, 0);
        x.set(2, 10);
        x.set(3, 10);
        x.arm(1, 20);
        x.copy(0);
        due("a twentieth beyond W, H, both", x.drawing(1, 9), 3);
        x.set(2, 11);
        due("beyond H", x.drawing(1, 9), 2);
        x.set(3, 11);
        due("none", x.drawing(1, 9), 0);
        x.set(2, 10);
        due("beyond W", x.drawing(1, 9), 2);
    }

    private static void lowerBorders() {
        about("Board, pencil", "The board is from 0 to W and from 0 to H");
        PantographArm x = with(21, 21, 0, 22, 21, 0, 21, 22, 0, 22, 22, 0, 1, 1, 0);
        x.pivot(1, 1);
        x.arm(1, 20);
        x.set(0, 1);
        x.copy(0);
        CHECK.dueAll("0", place(x, 1, 0), 0, 1, 0, 1);
        CHECK.dueAll("a twentieth below", place(x, 1, 3), -1, 20, -1, 20);
        due("three are off", x.drawing(1, 9), 3);
    }

    private static void borderOfThousand() {
        about("Board, pencil", "The board is from 0 to W");
        PantographArm x = with(950, 950, 0, 951, 950, 0, 950, 951, 0);
        x.arm(20, 19);
        x.copy(0);
        CHECK.dueAll("1000", place(x, 1, 0), 1000, 1, 1000, 1);
        due("two are beyond", x.drawing(1, 9), 2);
    }

    private static void drawnIfBothOnBoard() {
        about("Board, pencil", "is drawn, if both are on the board; otherwise it is left out");
        PantographArm x = with(0, 0, 0, 5, 5, 1, 15, 5, 1, 25, 5, 1, 9, 9, 1, 9, 15, 1, 9, 9, 1, 9, 8, 1);
        x.set(2, 10);
        x.set(3, 10);
        x.copy(0);
        CHECK.dueAll("on, to off, off, to on, up, down, on", ofPoints(x, 1, 5), 0, 1, 0, 0, 0, 0, 0, 1);
        CHECK.dueAll("lengths", ofPoints(x, 1, 6), 0, 10, 0, 0, 0, 0, 0, 1);
        due("drawn", x.count(13), 2);
        due("left out", x.count(15), 5);
        due("nothing is worn by those", x.count(10), 11);
    }

    private static void bordersBelongToLines() {
        about("Board, pencil", "A line between two joined points of a copy is drawn");
        PantographArm x = with(0, 0, 0, 10, 0, 1, 10, 10, 1, 0, 10, 1, 0, 0, 1,
            11, 0, 1, 0, 11, 0, 0, 10, 1, 10, 10, 0);
        x.set(2, 10);
        x.set(3, 10);
        x.copy(0);
        CHECK.dueAll("along the borders, and one beyond", ofPoints(x, 1, 5), 0, 1, 1, 1, 1, 0, 0, 0, 0);
        due("a line that is not joined is not left out", x.count(15), 2);
    }

    private static void boardOfTheCopying() {
        about("Board, pencil", "if both are on the board");
        PantographArm x = with(0, 0, 0, 20, 0, 1);
        x.set(2, 19);
        x.copy(0);
        x.set(2, 20);
        x.copy(0);
        x.set(2, 19);
        due("too small then", x.drawing(1, 6), 0);
        due("large enough then", x.drawing(2, 6), 1);
        due("left out", x.count(15), 1);
    }

    private static void pointsOffBoardArePoints() {
        about("Board, pencil", "(Points that are not on the board are points all the same.)");
        PantographArm x = with(600, 0, 0, 700, 0, 1);
        chain(x, 20, 1, 1, 20);
        due("points", x.drawing(1, 0), 2);
        due("off the board", x.drawing(1, 9), 2);
        CHECK.dueAll("place", place(x, 1, 1), 14000, 1, 0, 1);
        due("joined", x.pointInfo(1, 1, 4), 1);
        due("copied back", x.alike(0, 2), 2);
        due("its line is drawn", x.drawing(2, 6), 1);
    }

    private static void lengthOfBothTogether() {
        about("Board, pencil", "of both together rounded down");
        PantographArm x = with(0, 0, 0, 1, 1, 1, 1, 2, 1, 3, 3, 1, 3, 3, 1);
        x.arm(1, 2);
        x.copy(0);
        CHECK.dueAll("1/2 + 1/2, 1/2, 1 + 1/2, 0", ofPoints(x, 1, 6), 0, 1, 0, 1, 0);
        PantographArm y = with(0, 0, 0, 2, 2, 1, 3, 3, 1, 5, 6, 1);
        y.arm(1, 3);
        y.copy(0);
        CHECK.dueAll("2/3 + 2/3, 1/3 + 1/3, 2/3 + 1", ofPoints(y, 1, 6), 0, 1, 0, 1);
        due("of the lines, not of their sum", y.drawing(1, 7), 2);
    }

    private static void lengthIsAbsolute() {
        about("Board, pencil", "the absolute difference in x plus that in y");
        PantographArm x = with(10, 10, 0, 20, 5, 1, 15, 25, 1, 5, 5, 1, 6, 6, 1, 0, 1000, 0, 1000, 0, 1);
        x.copy(0);
        CHECK.dueAll("of the copy", ofPoints(x, 1, 6), 0, 15, 25, 30, 2, 0, 2000);
        CHECK.dueAll("of the original", ofPoints(x, 0, 6), 0, 15, 25, 30, 2, 0, 2000);
    }

    private static void wearAtFirst() {
        about("Board, pencil", "The pencil has a wear, at first 0.");
        due("wear", new PantographArm().count(10), 0);
        PantographArm x = with(0, 0, 0, 1, 0, 1);
        x.set(4, 1);
        x.copy(0);
        due("the first line", x.pointInfo(1, 1, 5), 1);
    }

    private static void softRange() {
        about("Board, pencil", "the setting soft (1 to 1000, at first 100)");
        due("at first", new PantographArm().count(9), 100);
        range(1, 1000, soft -> new PantographArm().set(4, soft));
    }

    private static void widthByTheWearAhead() {
        about("Board, pencil", "by the wear ahead of it");
        PantographArm x = with(0, 0, 0, 99, 0, 1, 100, 0, 1, 101, 0, 1, 300, 0, 1, 301, 0, 1);
        x.copy(0);
        CHECK.dueAll("wear 0, 99, 100, 101, 300", ofPoints(x, 1, 5), 0, 1, 1, 2, 2, 4);
        x.copy(0);
        CHECK.dueAll("wear 301, 400, 401, 402, 601", ofPoints(x, 2, 5), 0, 4, 5, 5, 5, 7);
    }

    private static void widthAtMostNine() {
        about("Board, pencil", "but at most 9");
        PantographArm x = with(0, 0, 0);
        for (int i = 1; i < 14; i++) {
            x.point(0, i, 0, 1);
        }
        x.set(4, 1);
        x.copy(0);
        CHECK.dueAll("a wear of 0 to 12, soft 1", ofPoints(x, 1, 5), 0, 1, 2, 3, 4, 5, 6, 7, 8, 9, 9, 9, 9, 9);
        due("the greatest", x.drawing(1, 8), 9);
        due("the wear goes on", x.count(10), 13);
    }

    private static void widthAtMostNineSoft() {
        about("Board, pencil", "Each line that is drawn has the width 1 + wear / the setting soft");
        PantographArm x = with(0, 0, 0, 1000, 999, 1, 0, 999, 1, 1000, 0, 1, 0, 1000, 1, 1000, 0, 1, 0, 1, 1, 0, 0, 1);
        x.set(4, 1000);
        x.copy(0);
        // The wear ahead is 0, 1999, 2999, 4998, 6998, 8998, 10999.
        CHECK.dueAll("soft 1000", ofPoints(x, 1, 5), 0, 1, 2, 3, 5, 7, 9, 9);
    }

    private static void wearGrowsByLength() {
        about("Board, pencil", "then the wear grows by the length of the line");
        PantographArm x = with(0, 0, 0, 3, 0, 1, 3, 4, 1, 900, 900, 0, 901, 899, 1);
        x.arm(1, 2);
        x.copy(0);
        due("1 + 2 + 1, of the rounded lengths", x.count(10), 4);
        x.copy(0);
        due("twice", x.count(10), 8);
    }

    private static void bluntAboveNine() {
        about("Board, pencil", "The pencil is blunt if 1 + wear / soft is greater than 9.");
        PantographArm x = with(0, 0, 0, 899, 0, 1);
        x.copy(0);
        due("1 + 899 / 100", x.count(11), 0);
        due("can be copied", x.why(0), 0);
        original(x, 0, 0, 0, 1, 0, 1);
        x.copy(2);
        due("its width", x.pointInfo(3, 1, 5), 9);
        due("1 + 900 / 100", x.count(11), 1);
        due("cannot be copied", x.why(0), 2);
    }

    private static void bluntBySoft() {
        about("Board, pencil", "1 + wear / soft is greater than 9");
        PantographArm x = with(0, 0, 0, 9, 0, 1);
        x.copy(0);
        x.set(4, 1);
        due("1 + 9 / 1", x.count(11), 1);
        x.set(4, 2);
        due("1 + 9 / 2", x.count(11), 0);
        due("a new one with soft 1", sharpWithSoftOne().count(11), 0);
    }

    private static PantographArm sharpWithSoftOne() {
        PantographArm x = new PantographArm();
        x.set(4, 1);
        return x;
    }

    private static void sharpenedTenTimes() {
        about("Board, pencil", "It can be sharpened 10 times");
        PantographArm x = with(0, 0, 0, 7, 0, 1);
        for (int i = 1; i <= 10; i++) {
            x.copy(0);
            due("time " + i, x.sharpen(), 7);
            due("left", x.count(12), 10 - i);
            x.remove(1);
        }
        x.copy(0);
        due("an 11th time", x.sharpen(), Checker.LIMIT);
        due("the wear stays", x.count(10), 7);
        due("none left", x.count(12), 0);
    }

    private static void wearIsZeroThen() {
        about("Board, pencil", "then its wear is 0");
        PantographArm x = with(0, 0, 0, 1000, 0, 1, 0, 0, 1);
        x.copy(0);
        due("blunt", x.count(11), 1);
        due("sharpen", x.sharpen(), 2000);
        due("wear", x.count(10), 0);
        due("sharp", x.count(11), 0);
        due("can be copied", x.copy(0), 2);
        CHECK.dueAll("widths begin anew", ofPoints(x, 2, 5), 0, 1, 9);
        CHECK.dueAll("those before stay", ofPoints(x, 1, 5), 0, 1, 9);
    }

    private static void linesOfOriginals() {
        about("Board, pencil", "Lines of originals have the width 1, all of them are drawn, and they wear nothing.");
        PantographArm x = new PantographArm();
        x.set(2, 10);
        x.set(3, 10);
        x.set(4, 1);
        original(x, 0, 0, 0, 10, 0, 1);
        x.copy(0);
        due("blunt", x.count(11), 1);
        original(x, 0, 0, 0, 1000, 0, 1, 1000, 1000, 1, 0, 0, 1, 5, 5, 0);
        CHECK.dueAll("widths, though blunt and off the board", ofPoints(x, 2, 5), 0, 1, 1, 1, 0);
        CHECK.dueAll("lengths", ofPoints(x, 2, 6), 0, 1000, 1000, 2000, 0);
        due("lines", x.drawing(2, 6), 3);
        due("length", x.drawing(2, 7), 4000);
        due("greatest width", x.drawing(2, 8), 1);
        due("wear", x.count(10), 10);
        due("lines by copying", x.count(13), 1);
        due("their length", x.count(14), 10);
        due("left out", x.count(15), 0);
        typeAll(x, "0,0-1000,1000.");
        x.read();
        due("width of one that is read", x.pointInfo(3, 1, 5), 1);
        due("it wears nothing", x.count(10), 10);
    }
}
