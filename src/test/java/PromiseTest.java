/** Every promise of the document by hand: ordinary inputs, edges, wrong inputs. */
public final class PromiseTest extends ByHand {
    public static void main(String[] args) {
        newObject();
        arm();
        pivot();
        set();
        count();
        sharpen();
        sharpenLimit();
        draw();
        point();
        remove();
        removeRenumbers();
        copyPlaces();
        copyWithPlay();
        copyLines();
        copyOfCopies();
        whyInOrder();
        whyTooFine();
        drawingProperties();
        drawingOffBoard();
        drawingFloats();
        ratio();
        pointInfo();
        atOnce();
        atOnceOfChains();
        alike();
        armFor();
        undo();
        undoRestoresAll();
        undoRestoresEach();
        undoLeavesText();
        errorsRecordNothing();
        type();
        clearText();
        faultReasons();
        faultOfManyPoints();
        faultArguments();
        read();
        readErrors();
        CHECK.finish();
    }

    // ---- arm and board

    private static void newObject() {
        CHECK.dueAll("a new object", counts(new PantographArm()),
            0, 1, 1, 0, 0, 0, 0, 1000, 1000, 100, 0, 0, 10, 0, 0, 0, 0, 0);
        due("no drawing", new PantographArm().drawing(0, 0), Checker.INVALID);
        due("no state", new PantographArm().undo(), Checker.IMPOSSIBLE);
    }

    private static void arm() {
        PantographArm x = new PantographArm();
        due("first arm", x.arm(20, 1), 101);
        due("second arm", x.arm(6, 4), 2001);
        due("a as set", x.count(1), 6);
        due("b as set", x.count(2), 4);
        for (int out : new int[] {0, 21, -1, Integer.MAX_VALUE, Integer.MIN_VALUE}) {
            due("a " + out, x.arm(out, 1), Checker.INVALID);
            due("b " + out, x.arm(1, out), Checker.INVALID);
        }
        due("history", x.count(16), 2);
        due("least and most", x.arm(1, 20), 604);
        due("previous", x.arm(1, 1), 120);
    }

    private static void pivot() {
        PantographArm x = new PantographArm();
        due("first pivot", x.pivot(1000, 0), 0);
        due("second pivot", x.pivot(0, 1000), 10000000);
        due("third pivot", x.pivot(12, 34), 1000);
        due("px", x.count(3), 12);
        due("py", x.count(4), 34);
        for (int out : new int[] {-1, 1001, Integer.MAX_VALUE, Integer.MIN_VALUE}) {
            due("x " + out, x.pivot(out, 1), Checker.INVALID);
            due("y " + out, x.pivot(1, out), Checker.INVALID);
        }
        due("history", x.count(16), 3);
    }

    private static void set() {
        int[] least = {0, 0, 10, 10, 1};
        int[] most = {2, 50, 1000, 1000, 1000};
        int[] first = {0, 0, 1000, 1000, 100};
        for (int what = 0; what < 5; what++) {
            PantographArm x = new PantographArm();
            due("first of " + what, x.set(what, least[what]), first[what]);
            due("least of " + what, x.set(what, most[what]), least[what]);
            due("most of " + what, x.count(5 + what), most[what]);
            due("below " + what, x.set(what, least[what] - 1), Checker.INVALID);
            due("above " + what, x.set(what, most[what] + 1), Checker.INVALID);
            due("still " + what, x.count(5 + what), most[what]);
            due("history", x.count(16), 2);
            for (int other = 0; other < 5; other++) {
                due("other " + other, x.count(5 + other), other == what ? most[what] : first[other]);
            }
        }
        PantographArm x = new PantographArm();
        for (int out : new int[] {-1, 5, Integer.MAX_VALUE, Integer.MIN_VALUE}) {
            due("set " + out, x.set(out, 10), Checker.INVALID);
        }
    }

    private static void count() {
        PantographArm x = new PantographArm();
        original(x, 0, 0, 0, 100, 0, 1, 100, 50, 1);
        x.set(2, 60);
        x.copy(0);
        x.set(2, 1000);
        x.copy(0);
        typeAll(x, "1,2");
        CHECK.dueAll("counts", counts(x),
            3, 1, 1, 0, 0, 0, 0, 1000, 1000, 100, 150, 0, 10, 2, 150, 2, 4, 3);
        x.remove(2);
        due("drawings less", x.count(0), 2);
        due("lines that were drawn stay", x.count(13), 2);
        due("their length stays", x.count(14), 150);
        due("left out stays", x.count(15), 2);
        for (int out : new int[] {-1, 18, Integer.MAX_VALUE, Integer.MIN_VALUE}) {
            due("count " + out, x.count(out), Checker.INVALID);
        }
    }

    private static void sharpen() {
        PantographArm x = new PantographArm();
        original(x, 0, 0, 0, 1000, 0, 1);
        x.set(4, 125);
        due("copy", x.copy(0), 1);
        due("wear of 1000", x.count(10), 1000);
        due("width 9 is not blunt", x.count(11), 0);
        x.set(4, 111);
        due("width 10 is blunt", x.count(11), 1);
        x.set(4, 112);
        due("width 9 again", x.count(11), 0);
        due("sharpen", x.sharpen(), 1000);
        due("no wear", x.count(10), 0);
        due("left", x.count(12), 9);
        due("sharpen a sharp one", x.sharpen(), 0);
        due("left", x.count(12), 8);
        due("lines stay", x.count(13), 1);
    }

    private static void sharpenLimit() {
        PantographArm x = new PantographArm();
        for (int i = 9; i >= 0; i--) {
            due("sharpen", x.sharpen(), 0);
            due("left", x.count(12), i);
        }
        due("too often", x.sharpen(), Checker.LIMIT);
        due("history", x.count(16), 4);
        due("undo", x.undo(), 3);
        due("given back", x.count(12), 1);
        due("again", x.sharpen(), 0);
        due("too often again", x.sharpen(), Checker.LIMIT);
    }

    // ---- drawings

    private static void draw() {
        PantographArm x = new PantographArm();
        for (int i = 0; i < 6; i++) {
            due("draw", x.draw(), i);
            due("points", x.drawing(i, 0), 0);
        }
        due("a seventh", x.draw(), Checker.LIMIT);
        due("history", x.count(16), 4);
        due("drawings", x.count(0), 6);
        due("remove", x.remove(3), 5);
        due("draw again", x.draw(), 5);
    }

    private static void point() {
        PantographArm x = new PantographArm();
        due("no drawing", x.point(0, 0, 0, 0), Checker.INVALID);
        x.draw();
        due("x below", x.point(0, -1, 0, 0), Checker.INVALID);
        due("x above", x.point(0, 1001, 0, 0), Checker.INVALID);
        due("y below", x.point(0, 0, -1, 0), Checker.INVALID);
        due("y above", x.point(0, 0, 1001, 0), Checker.INVALID);
        due("joined below", x.point(0, 0, 0, -1), Checker.INVALID);
        due("joined above", x.point(0, 0, 0, 2), Checker.INVALID);
        for (int out : OUT) {
            due("drawing " + out, x.point(out, 0, 0, 0), Checker.INVALID);
        }
        due("least", x.point(0, 0, 0, 1), 0);
        due("most", x.point(0, 1000, 1000, 1), 1);
        due("not joined", x.point(0, 7, 8, 0), 2);
        due("the first is not joined", x.pointInfo(0, 0, 4), 0);
        due("the second is joined", x.pointInfo(0, 1, 4), 1);
        due("the third is not", x.pointInfo(0, 2, 4), 0);
        CHECK.dueAll("place", place(x, 0, 1), 1000, 1, 1000, 1);
        x.copy(0);
        due("of a copy", x.point(1, 0, 0, 0), Checker.IMPOSSIBLE);
        due("with a copy", x.point(0, 0, 0, 0), Checker.IMPOSSIBLE);
        due("with a copy, wrong", x.point(0, 0, 0, 2), Checker.INVALID);
        due("of a copy, wrong", x.point(1, 0, 1001, 0), Checker.INVALID);
        x.remove(1);
        for (int i = 3; i < 20; i++) {
            due("point " + i, x.point(0, i, i, 1), i);
        }
        due("a 21st", x.point(0, 0, 0, 0), Checker.LIMIT);
        due("a 21st, wrong", x.point(0, 0, 0, 3), Checker.INVALID);
        x.set(4, 1000);
        due("its copy", x.copy(0), 1);
        due("a 21st, not possible", x.point(0, 0, 0, 0), Checker.IMPOSSIBLE);
        due("points", x.drawing(0, 0), 20);
    }

    private static void remove() {
        PantographArm x = new PantographArm();
        due("none there", x.remove(0), Checker.INVALID);
        original(x, 1, 2, 0);
        x.copy(0);
        x.copy(1);
        due("copied", x.remove(0), Checker.IMPOSSIBLE);
        due("copied copy", x.remove(1), Checker.IMPOSSIBLE);
        due("behind", x.remove(3), Checker.INVALID);
        for (int out : OUT) {
            due("remove " + out, x.remove(out), Checker.INVALID);
        }
        due("the last one", x.remove(2), 2);
        due("then its original", x.remove(1), 1);
        due("then the first", x.remove(0), 0);
    }

    private static void removeRenumbers() {
        PantographArm x = new PantographArm();
        original(x, 1, 1, 0);
        original(x, 2, 2, 0);
        original(x, 3, 3, 0);
        x.copy(2);
        x.copy(3);
        x.copy(0);
        due("remove 1", x.remove(1), 5);
        due("place of 1", x.pointInfo(1, 0, 0), 3);
        due("copied by 2", x.drawing(2, 1), 1);
        due("copied by 3", x.drawing(3, 1), 2);
        due("original of 3", x.drawing(3, 2), 1);
        due("steps of 3", x.drawing(3, 3), 2);
        due("copied by 4", x.drawing(4, 1), 0);
        due("0 has a copy", x.remove(0), Checker.IMPOSSIBLE);
        due("1 has a copy", x.remove(1), Checker.IMPOSSIBLE);
        due("undo", x.undo(), 3);
        due("copied by 4 before", x.drawing(4, 1), 3);
        due("place of 1 before", x.pointInfo(1, 0, 0), 2);
    }

    private static void copyPlaces() {
        PantographArm x = new PantographArm();
        original(x, 10, 20, 0, 15, 40, 1);
        x.arm(3, 7);
        x.pivot(5, 30);
        due("straight", x.copy(0), 1);
        CHECK.dueAll("straight 0", place(x, 1, 0), 50, 7, 180, 7);
        CHECK.dueAll("straight 1", place(x, 1, 1), 65, 7, 240, 7);
        x.set(0, 1);
        due("turned", x.copy(0), 2);
        CHECK.dueAll("turned 0", place(x, 2, 0), 20, 7, 240, 7);
        CHECK.dueAll("turned 1", place(x, 2, 1), 5, 7, 180, 7);
        x.set(0, 2);
        due("mirrored", x.copy(0), 3);
        CHECK.dueAll("mirrored 0", place(x, 3, 0), 20, 7, 180, 7);
        CHECK.dueAll("mirrored 1", place(x, 3, 1), 5, 7, 240, 7);
        due("no drawing", x.copy(4), Checker.INVALID);
        for (int out : OUT) {
            due("copy " + out, x.copy(out), Checker.INVALID);
        }
        PantographArm y = new PantographArm();
        original(y, 10, 10, 0);
        y.arm(5, 10);
        y.copy(0);
        CHECK.dueAll("lowest terms", place(y, 1, 0), 5, 1, 5, 1);
        y.pivot(10, 0);
        y.arm(1, 1);
        y.set(0, 2);
        y.pivot(5, 0);
        y.copy(0);
        CHECK.dueAll("zero", place(y, 2, 0), 0, 1, 10, 1);
    }

    private static void copyWithPlay() {
        PantographArm x = new PantographArm();
        original(x, 100, 100, 0, 105, 95, 1, 106, 94, 1, 100, 120, 1, 300, 300, 0, 290, 310, 1);
        x.set(1, 5);
        due("copy", x.copy(0), 1);
        CHECK.dueAll("the first comes to its aim", place(x, 1, 0), 100, 1, 100, 1);
        CHECK.dueAll("within the play", place(x, 1, 1), 100, 1, 100, 1);
        CHECK.dueAll("just beyond", place(x, 1, 2), 101, 1, 99, 1);
        CHECK.dueAll("x and y by themselves", place(x, 1, 3), 101, 1, 115, 1);
        CHECK.dueAll("lifted", place(x, 1, 4), 300, 1, 300, 1);
        CHECK.dueAll("down and up", place(x, 1, 5), 295, 1, 305, 1);
        CHECK.dueAll("at once", placeAtOnce(x, 1, 5), 290, 1, 310, 1);
        due("joined as traced", x.pointInfo(1, 4, 4), 0);
        due("joined as traced", x.pointInfo(1, 5, 4), 1);
        due("wear of the drawn places", x.count(10), 2 + 16 + 10);
        x.arm(1, 3);
        due("copy", x.copy(0), 2);
        CHECK.dueAll("the play is not divided", place(x, 2, 2), 100, 3, 100, 3);
        CHECK.dueAll("a third beyond", place(x, 2, 3), 100, 3, 35, 1);
    }

    private static void copyLines() {
        PantographArm x = new PantographArm();
        original(x, 0, 0, 0, 100, 0, 1, 100, 99, 1, 100, 101, 1, 200, 200, 0, 0, 200, 1, 1000, 1000, 1);
        x.set(2, 200);
        x.set(3, 200);
        due("copy", x.copy(0), 1);
        long[] widths = new long[7];
        long[] lengths = new long[7];
        for (int i = 0; i < 7; i++) {
            widths[i] = x.pointInfo(1, i, 5);
            lengths[i] = x.pointInfo(1, i, 6);
        }
        CHECK.dueAll("widths", widths, 0, 1, 2, 2, 0, 3, 0);
        CHECK.dueAll("lengths", lengths, 0, 100, 99, 2, 0, 200, 0);
        due("joined though left out", x.pointInfo(1, 6, 4), 1);
        due("lines", x.drawing(1, 6), 4);
        due("length", x.drawing(1, 7), 401);
        due("width", x.drawing(1, 8), 3);
        due("off the board", x.drawing(1, 9), 1);
        due("wear", x.count(10), 401);
        due("left out", x.count(15), 1);
        PantographArm y = new PantographArm();
        original(y, 0, 0, 0, 1000, 0, 1, 1000, 1, 1, 0, 0, 1);
        y.set(4, 1);
        y.copy(0);
        due("at most 9", y.pointInfo(1, 2, 5), 9);
        due("blunt on the way", y.drawing(1, 6), 3);
        due("wear goes on", y.count(10), 2002);
        PantographArm z = new PantographArm();
        original(z, 0, 0, 0, 1, 1, 1, 1, 2, 1);
        z.arm(1, 2);
        z.copy(0);
        due("halves of x and y together", z.pointInfo(1, 1, 6), 1);
        due("a half rounded down", z.pointInfo(1, 2, 6), 0);
        due("a line of length 0 is drawn", z.pointInfo(1, 2, 5), 1);
    }

    private static void copyOfCopies() {
        PantographArm x = new PantographArm();
        original(x, 7, 11, 0, 8, 13, 1);
        x.arm(2, 3);
        x.pivot(1, 1);
        x.set(0, 1);
        due("first", x.copy(0), 1);
        CHECK.dueAll("first", place(x, 1, 0), -3, 1, -17, 3);
        x.arm(5, 7);
        x.pivot(0, 3);
        x.set(0, 2);
        due("second", x.copy(1), 2);
        CHECK.dueAll("second", place(x, 2, 0), 15, 7, -67, 21);
        CHECK.dueAll("second at once", placeAtOnce(x, 2, 0), 15, 7, -67, 21);
        due("sign x", x.drawing(2, 4), 1);
        due("sign y", x.drawing(2, 5), -1);
        due("numerator", x.ratio(2, 0), 10);
        due("denominator", x.ratio(2, 1), 21);
    }

    private static void whyInOrder() {
        PantographArm x = new PantographArm();
        due("none there", x.why(0), Checker.INVALID);
        original(x);
        due("no points", x.why(0), 1);
        due("not copied", x.copy(0), Checker.IMPOSSIBLE);
        original(x, 0, 0, 0, 1000, 0, 1);
        due("can be", x.why(1), 0);
        x.set(4, 1);
        x.copy(1);
        due("blunt", x.why(1), 2);
        due("not copied", x.copy(1), Checker.IMPOSSIBLE);
        due("no points ahead of blunt", x.why(0), 1);
        x.draw();
        x.draw();
        x.draw();
        due("blunt ahead of 6", x.why(1), 2);
        x.sharpen();
        due("6", x.why(1), 3);
        due("no points ahead of 6", x.why(0), 1);
        due("not copied", x.copy(1), Checker.IMPOSSIBLE);
        x.remove(5);
        due("can be again", x.why(1), 0);
        due("behind", x.why(5), Checker.INVALID);
        for (int out : OUT) {
            due("why " + out, x.why(out), Checker.INVALID);
        }
        due("nothing changes by asking", x.count(13), 1);
        due("drawings", x.count(0), 5);
    }

    private static void whyTooFine() {
        PantographArm x = new PantographArm();
        original(x, 0, 0, 0);
        x.arm(1, 20);
        x.copy(0);
        x.copy(1);
        x.copy(2);
        due("160000 of the ratio", x.why(3), 4);
        x.arm(1, 12);
        due("96000 of the ratio", x.why(3), 0);
        x.arm(1, 13);
        due("104000 of the ratio", x.why(3), 4);
        x.arm(20, 1);
        due("ratio 1 / 400", x.why(3), 0);

        PantographArm y = new PantographArm();
        original(y, 1, 1, 0);
        y.arm(20, 1);
        y.copy(0);
        y.copy(1);
        y.copy(2);
        due("numerator of the ratio", y.why(3), 4);
        y.arm(12, 1);
        due("96000", y.why(3), 0);
        y.arm(13, 1);
        due("104000", y.why(3), 4);

        whyJustFineEnough();
        whyTooFinePlaces(1, 0);
        whyTooFinePlaces(0, 1);
        whyWithPlay();
    }

    /** 100000 is not greater than 100000. */
    private static void whyJustFineEnough() {
        int[] factors = {20, 20, 10, 5, 5};
        PantographArm x = new PantographArm();
        original(x, 1, 0, 0, 0, 1, 0);
        PantographArm y = new PantographArm();
        original(y, 1, 0, 0);
        for (int i = 0; i < factors.length; i++) {
            x.arm(1, factors[i]);
            due("smaller", x.copy(i), i + 1);
            y.arm(factors[i], 1);
            due("larger", y.copy(i), i + 1);
        }
        due("denominator", x.ratio(5, 1), 100000);
        due("numerator", y.ratio(5, 0), 100000);
        CHECK.dueAll("x of 1 / 100000", place(x, 5, 0), 1, 100000, 0, 1);
        CHECK.dueAll("y of 1 / 100000", place(x, 5, 1), 0, 1, 1, 100000);
        CHECK.dueAll("x of 100000", place(y, 5, 0), 100000, 1, 0, 1);
        floats(x, 5);
        floats(y, 5);
    }

    /** Each arm cancels the b before it in the ratio, but not in the shifts that a changed pivot makes. */
    private static void whyTooFinePlaces(int px, int py) {
        PantographArm x = new PantographArm();
        original(x, 0, 0, 0);
        x.pivot(px, py);
        int[][] arms = {{19, 20}, {17, 19}, {13, 17}, {11, 13}};
        for (int i = 0; i < arms.length; i++) {
            x.arm(arms[i][0], arms[i][1]);
            due("copy", x.copy(i), i + 1);
            x.pivot(0, 0);
        }
        CHECK.dueAll("twentieths", place(x, 4, 0), 11L * px, px == 1 ? 380 : 1, 11L * py, py == 1 ? 380 : 1);
        due("ratio", x.ratio(4, 1), 20);
        x.arm(7, 11);
        due("still", x.why(4), 0);
        for (int i = 4; i > 0; i--) {
            x.remove(i);
        }
        for (int i = 0; i < arms.length; i++) {
            x.arm(arms[i][0], arms[i][1]);
            x.pivot(px, py);
            due("copy", x.copy(i), i + 1);
            // Two arms about one pivot cancel in the places too.
            px = px == 0 ? 0 : px + 1;
            py = py == 0 ? 0 : py + 1;
        }
        due("20 * 19 * 17 * 13", x.pointInfo(4, 0, px > 0 ? 1 : 3), 83980);
        x.pivot(px, py);
        x.arm(7, 11);
        due("ratio 7 / 20, but a place too fine", x.why(4), 4);
        due("not copied", x.copy(4), Checker.IMPOSSIBLE);
        x.arm(11, 11);
        due("place 83980", x.why(4), 0);
    }

    /** By its play the pencil stays at a place, so that an aim too fine does not matter. */
    private static void whyWithPlay() {
        PantographArm x = new PantographArm();
        original(x, 0, 0, 0, 31, 0, 1);
        int[][] arms = {{19, 20}, {17, 19}, {13, 17}, {11, 13}};
        x.set(1, 1);
        for (int i = 0; i < arms.length; i++) {
            x.arm(arms[i][0], arms[i][1]);
            due("copy", x.copy(i), i + 1);
        }
        due("the lag does not cancel", x.pointInfo(4, 1, 1), 83980);
        x.arm(7, 11);
        due("too fine", x.why(4), 4);
        x.set(1, 50);
        due("it stays", x.why(4), 0);
        due("copy", x.copy(4), 5);
        CHECK.dueAll("at the first point", place(x, 5, 1), 0, 1, 0, 1);
        CHECK.dueAll("at once", placeAtOnce(x, 5, 1), 217, 20, 0, 1);
    }

    private static void drawingProperties() {
        PantographArm x = new PantographArm();
        original(x, 0, 0, 0, 10, 20, 1, 1000, 5, 0, 1000, 6, 1);
        long[] got = new long[12];
        for (int what = 0; what < 12; what++) {
            got[what] = x.drawing(0, what);
        }
        CHECK.dueAll("an original", got, 4, Checker.MISSING, 0, 0, 1, 1, 2, 31, 1, 0,
            Float.floatToIntBits(1f), 10);
        x.set(2, 999);
        due("off the board as it is now", x.drawing(0, 9), 2);
        due("lines of originals stay", x.drawing(0, 6), 2);
        x.arm(2, 3);
        x.set(0, 2);
        x.pivot(10, 0);
        x.copy(0);
        for (int what = 0; what < 12; what++) {
            got[what] = x.drawing(1, what);
        }
        CHECK.dueAll("a copy", got, 4, 0, 0, 1, -1, 1, 1, 20, 1, 2, Float.floatToIntBits(2f / 3f), 6);
        x.draw();
        due("no lines, no width", x.drawing(2, 8), 0);
        due("no lines, no length", x.drawing(2, 7), 0);
        for (int out : new int[] {-1, 12, Integer.MAX_VALUE, Integer.MIN_VALUE}) {
            due("what " + out, x.drawing(0, out), Checker.INVALID);
        }
        due("drawing 3", x.drawing(3, 1), Checker.INVALID);
        for (int out : OUT) {
            due("drawing " + out, x.drawing(out, 0), Checker.INVALID);
        }
    }

    private static void drawingOffBoard() {
        PantographArm x = new PantographArm();
        original(x, 0, 0, 0, 30, 0, 1, 30, 30, 0, 31, 30, 1, 30, 31, 0, 30, 30, 1);
        x.set(2, 10);
        x.set(3, 10);
        due("five of the original", x.drawing(0, 9), 5);
        x.arm(1, 3);
        x.copy(0);
        due("the borders belong to it", x.drawing(1, 9), 2);
        due("lines with both points on it", x.drawing(1, 6), 1);
        due("left out", x.count(15), 2);
        x.pivot(1, 1);
        x.set(0, 1);
        x.copy(0);
        due("the first alone is on it", x.drawing(2, 9), 5);
        x.set(0, 2);
        x.copy(0);
        due("mirrored", x.drawing(3, 9), 5);
        x.set(2, 1000);
        x.set(3, 1000);
        x.arm(20, 1);
        x.pivot(0, 0);
        x.copy(0);
        due("below 0", x.drawing(4, 9), 5);
        x.set(0, 0);
        x.pivot(20, 20);
        x.copy(0);
        due("the first alone is off it", x.drawing(5, 9), 2);
    }

    private static void drawingFloats() {
        for (int a = 1; a <= 20; a++) {
            for (int b = 1; b <= 20; b++) {
                PantographArm x = new PantographArm();
                original(x, 0, 0, 0);
                x.arm(a, b);
                x.copy(0);
                floats(x, 1);
                x.copy(1);
                floats(x, 2);
                x.arm(b == 1 ? 20 : b, a == 1 ? 19 : a);
                x.copy(2);
                floats(x, 3);
            }
        }
    }

    private static void floats(PantographArm x, int drawing) {
        float ratio = (float) x.ratio(drawing, 0) / (float) x.ratio(drawing, 1);
        due("bits of the ratio", x.drawing(drawing, 10), Float.floatToIntBits(ratio));
        due("ten times the ratio", x.drawing(drawing, 11), (int) (ratio * (float) 10));
    }

    private static void ratio() {
        PantographArm x = new PantographArm();
        due("none there", x.ratio(0, 0), Checker.INVALID);
        original(x, 1, 1, 0);
        due("original", x.ratio(0, 0), 1);
        due("original", x.ratio(0, 1), 1);
        x.arm(20, 8);
        x.copy(0);
        due("numerator", x.ratio(1, 0), 5);
        due("denominator", x.ratio(1, 1), 2);
        x.copy(1);
        due("numerator", x.ratio(2, 0), 25);
        due("denominator", x.ratio(2, 1), 4);
        x.arm(4, 1);
        x.copy(2);
        due("numerator", x.ratio(3, 0), 25);
        due("denominator", x.ratio(3, 1), 1);
        x.set(0, 1);
        x.copy(2);
        due("above 0, also if it is turned", x.ratio(4, 0), 25);
        due("part -1", x.ratio(0, -1), Checker.INVALID);
        due("part 2", x.ratio(0, 2), Checker.INVALID);
        due("drawing 5", x.ratio(5, 0), Checker.INVALID);
        due("drawing -1", x.ratio(-1, 0), Checker.INVALID);
    }

    private static void pointInfo() {
        PantographArm x = new PantographArm();
        due("none there", x.pointInfo(0, 0, 0), Checker.INVALID);
        original(x, 3, 4, 1, 10, 20, 1, 5, 6, 0);
        long[] second = new long[7];
        long[] third = new long[7];
        for (int what = 0; what < 7; what++) {
            second[what] = x.pointInfo(0, 1, what);
            third[what] = x.pointInfo(0, 2, what);
        }
        CHECK.dueAll("joined", second, 10, 1, 20, 1, 1, 1, 23);
        CHECK.dueAll("not joined", third, 5, 1, 6, 1, 0, 0, 0);
        due("what -1", x.pointInfo(0, 0, -1), Checker.INVALID);
        due("what 7", x.pointInfo(0, 0, 7), Checker.INVALID);
        due("point 3", x.pointInfo(0, 3, 0), Checker.INVALID);
        due("drawing 1", x.pointInfo(1, 0, 0), Checker.INVALID);
        for (int out : OUT) {
            due("point " + out, x.pointInfo(0, out, 0), Checker.INVALID);
            due("drawing " + out, x.pointInfo(out, 0, 0), Checker.INVALID);
        }
        // Beyond 32 bits: four times twenty fold, and turned about a far pivot.
        PantographArm far = new PantographArm();
        original(far, 1000, 0, 0);
        far.arm(20, 1);
        far.set(0, 1);
        far.copy(0);
        far.copy(1);
        far.copy(2);
        far.arm(12, 1);
        far.pivot(1000, 1000);
        far.copy(3);
        CHECK.dueAll("far", place(far, 4, 0), 96013000, 1, 13000, 1);
        far.arm(1, 1);
        far.pivot(1000, 1000);
        due("far again", far.copy(4), 5);
        CHECK.dueAll("far again", place(far, 5, 0), -96011000, 1, -11000, 1);
        CHECK.dueAll("far at once", placeAtOnce(far, 5, 0), -96011000, 1, -11000, 1);
    }

    private static void atOnce() {
        PantographArm x = new PantographArm();
        due("none there", x.atOnce(0, 0, 0), Checker.INVALID);
        original(x, 3, 4, 1, 10, 20, 1);
        CHECK.dueAll("original", placeAtOnce(x, 0, 1), 10, 1, 20, 1);
        x.arm(1, 6);
        x.pivot(4, 4);
        x.set(0, 2);
        x.set(1, 50);
        x.copy(0);
        CHECK.dueAll("copy 0", placeAtOnce(x, 1, 0), 25, 6, 4, 1);
        CHECK.dueAll("copy 1", placeAtOnce(x, 1, 1), 3, 1, 20, 3);
        CHECK.dueAll("with play", place(x, 1, 1), 25, 6, 4, 1);
        for (int out : new int[] {-1, 4, Integer.MAX_VALUE, Integer.MIN_VALUE}) {
            due("what " + out, x.atOnce(1, 0, out), Checker.INVALID);
        }
        due("point 2", x.atOnce(1, 2, 0), Checker.INVALID);
        due("drawing 2", x.atOnce(2, 0, 0), Checker.INVALID);
        for (int out : OUT) {
            due("point " + out, x.atOnce(0, out, 0), Checker.INVALID);
            due("drawing " + out, x.atOnce(out, 0, 0), Checker.INVALID);
        }
    }

    private static void atOnceOfChains() {
        PantographArm x = new PantographArm();
        original(x, 123, 456, 0, 0, 1000, 1);
        int[][] arms = {{3, 2, 10, 20, 0}, {5, 4, 0, 999, 1}, {7, 3, 1000, 1, 2}, {1, 7, 13, 17, 1}, {2, 5, 1, 2, 2}};
        for (int i = 0; i < arms.length; i++) {
            x.arm(arms[i][0], arms[i][1]);
            x.pivot(arms[i][2], arms[i][3]);
            x.set(0, arms[i][4]);
            due("copy", x.copy(i), i + 1);
            for (int point = 0; point < 2; point++) {
                CHECK.dueAll("at once as by steps", placeAtOnce(x, i + 1, point), place(x, i + 1, point));
            }
        }
        due("steps", x.drawing(5, 3), 5);
        due("original", x.drawing(5, 2), 0);
    }

    private static void alike() {
        PantographArm x = new PantographArm();
        due("none there", x.alike(0, 0), Checker.INVALID);
        original(x, 1, 1, 0, 2, 2, 1, 3, 3, 0);
        original(x, 1, 1, 0, 2, 3, 0, 3, 3, 1, 4, 4, 0);
        original(x, 2, 2, 0, 1, 1, 0);
        due("itself", x.alike(0, 0), 3);
        due("with the same number", x.alike(0, 1), 2);
        due("the other way", x.alike(1, 0), 2);
        due("places of other numbers", x.alike(0, 2), 0);
        x.arm(1, 2);
        x.copy(0);
        x.arm(2, 1);
        x.copy(3);
        due("there and back", x.alike(0, 4), 3);
        due("halves", x.alike(0, 3), 0);
        due("behind", x.alike(0, 5), Checker.INVALID);
        due("behind", x.alike(5, 0), Checker.INVALID);
        due("below", x.alike(-1, 0), Checker.INVALID);
        due("below", x.alike(0, Integer.MIN_VALUE), Checker.INVALID);
    }

    private static void armFor() {
        PantographArm x = new PantographArm();
        due("none there", x.armFor(0, 0), Checker.INVALID);
        original(x, 1, 1, 0);
        due("itself", x.armFor(0, 0), 101);
        x.arm(6, 4);
        x.copy(0);
        due("lowest terms", x.armFor(1, 0), 302);
        due("the other way", x.armFor(0, 1), 203);
        x.arm(14, 1);
        x.copy(1);
        due("21", x.armFor(2, 0), Checker.MISSING);
        due("1 / 21", x.armFor(0, 2), Checker.MISSING);
        due("14", x.armFor(2, 1), 1401);
        x.arm(20, 20);
        x.copy(2);
        due("1", x.armFor(3, 2), 101);
        x.arm(1, 20);
        x.copy(1);
        due("least", x.armFor(4, 1), 120);
        due("most", x.armFor(1, 4), 2001);
        due("behind", x.armFor(0, 5), Checker.INVALID);
        due("behind", x.armFor(5, 0), Checker.INVALID);
        due("below", x.armFor(-1, 0), Checker.INVALID);
        due("below", x.armFor(0, -1), Checker.INVALID);
    }

    private static void undo() {
        PantographArm x = new PantographArm();
        due("empty", x.undo(), Checker.IMPOSSIBLE);
        for (int i = 2; i <= 7; i++) {
            x.arm(i, 1);
            due("states", x.count(16), Math.min(i - 1, 4));
        }
        for (int i = 6; i >= 3; i--) {
            due("undo", x.undo(), i - 3);
            due("a", x.count(1), i);
        }
        due("empty again", x.undo(), Checker.IMPOSSIBLE);
        due("a", x.count(1), 3);
        x.arm(3, 1);
        due("a change that changes nothing", x.count(16), 1);
        due("undo", x.undo(), 0);
    }

    private static void undoRestoresAll() {
        PantographArm x = new PantographArm();
        original(x, 10, 10, 0, 110, 10, 1);
        x.arm(2, 1);
        x.pivot(3, 4);
        x.set(4, 7);
        x.copy(0);
        long[] before = counts(x);
        x.set(1, 9);
        x.sharpen();
        x.copy(0);
        x.remove(1);
        due("undo", x.undo(), 3);
        due("removed one is back", x.drawing(1, 7), 200);
        due("its width", x.pointInfo(1, 1, 5), 1);
        due("its place", x.pointInfo(1, 0, 0), 17);
        x.undo();
        due("copy is gone", x.count(0), 2);
        due("wear of none", x.count(10), 0);
        x.undo();
        x.undo();
        before[16] = 0;
        CHECK.dueAll("all counts", counts(x), before);
        due("points after undo", x.drawing(0, 0), 2);

        PantographArm y = new PantographArm();
        original(y, 1, 1, 0, 2, 2, 1);
        y.undo();
        due("one point less", y.drawing(0, 0), 1);
        due("another point", y.point(0, 5, 6, 0), 1);
        CHECK.dueAll("its place", place(y, 0, 1), 5, 1, 6, 1);
        due("not joined", y.pointInfo(0, 1, 4), 0);
        y.undo();
        y.undo();
        y.undo();
        due("no drawing", y.count(0), 0);
    }

    private static void undoRestoresEach() {
        int[] first = {0, 0, 1000, 1000, 100};
        for (int what = 0; what < 5; what++) {
            PantographArm x = new PantographArm();
            x.set(what, what == 4 ? 1 : what < 2 ? 2 : 10);
            x.undo();
            due("setting " + what, x.count(5 + what), first[what]);
        }
        PantographArm y = new PantographArm();
        original(y, 10, 20, 0, 12, 23, 1);
        y.arm(5, 2);
        y.pivot(4, 5);
        y.set(0, 2);
        y.copy(0);
        y.draw();
        y.remove(2);
        y.remove(1);
        y.undo();
        long[] got = new long[8];
        for (int what = 0; what < 8; what++) {
            got[what] = y.drawing(1, what);
        }
        CHECK.dueAll("the copy", got, 2, 0, 0, 1, -1, 1, 0, 0);
        CHECK.dueAll("its ratio", new long[] {y.ratio(1, 0), y.ratio(1, 1)}, 5, 2);
        CHECK.dueAll("its place", place(y, 1, 0), -11, 1, 85, 2);
        CHECK.dueAll("at once", placeAtOnce(y, 1, 1), -16, 1, 50, 1);
    }

    private static void undoLeavesText() {
        PantographArm x = withText("1,2.");
        x.read();
        typeAll(x, "-");
        due("undo", x.undo(), 0);
        due("text stays", x.count(17), 5);
        due("fault", x.fault(0), 4);
        due("drawings", x.count(0), 0);
        x.clearText();
        due("typing records nothing", x.count(16), 0);
    }

    private static void errorsRecordNothing() {
        PantographArm x = new PantographArm();
        x.arm(0, 0);
        x.pivot(-1, 0);
        x.set(9, 0);
        x.point(0, 0, 0, 0);
        x.remove(0);
        x.copy(0);
        x.read();
        x.undo();
        due("history", x.count(16), 0);
        x.draw();
        x.copy(0);
        due("history", x.count(16), 1);
        due("drawings", x.count(0), 1);
    }

    // ---- texts

    private static void type() {
        PantographArm x = new PantographArm();
        for (int out : new int[] {31, 127, 0, -1, 65584, Integer.MAX_VALUE, Integer.MIN_VALUE}) {
            due("type " + out, x.type(out), Checker.INVALID);
        }
        due("least", x.type(32), 1);
        due("most", x.type(126), 2);
        for (int i = 3; i <= 100; i++) {
            due("type", x.type(48), i);
        }
        due("a 101st", x.type(48), Checker.LIMIT);
        due("a 101st, wrong", x.type(31), Checker.INVALID);
        due("length", x.count(17), 100);
        due("fault", x.fault(0), 0);
    }

    private static void clearText() {
        PantographArm x = new PantographArm();
        due("empty", x.clearText(), 0);
        typeAll(x, "12,34.");
        due("length", x.clearText(), 6);
        due("then", x.count(17), 0);
        due("fault", x.fault(0), 0);
        due("reason", x.fault(1), 2);
        typeAll(x, "5");
        due("nothing of before", x.fault(0), 1);
    }

    private static void faultReasons() {
        noFault("0,0.", 1);
        noFault("1000,1000.", 1);
        noFault("0000,0999-01,1 10,100-0010,7.", 4);
        fault("", 0, 2);
        fault(".", 0, 1);
        fault(" 1,1.", 0, 1);
        fault("-1,1.", 0, 1);
        fault("1", 1, 2);
        fault("1.", 1, 1);
        fault("1,", 2, 2);
        fault("1,.", 2, 1);
        fault("1,1", 3, 2);
        fault("1,1,", 3, 1);
        fault("1,1-", 4, 2);
        fault("1,1 ", 4, 2);
        fault("1,1-.", 4, 1);
        fault("1,1- 2,2.", 4, 1);
        fault("1,1..", 4, 1);
        fault("1,1. ", 4, 1);
        fault("1,1/2,2.", 3, 1);
        fault("1,1:2,2.", 3, 1);
        fault("1001,1.", 0, 3);
        fault("1001", 0, 3);
        fault("1001x", 0, 3);
        fault("10010,1.", 0, 3);
        fault("10000,1.", 4, 1);
        fault("00001,1.", 4, 1);
        fault("1,9999.", 2, 3);
        fault("1,9999", 2, 3);
        fault("1,2 03,1234~", 7, 3);
        fault("1,00000.", 6, 1);
        fault("100", 3, 2);
        fault("1000", 4, 2);
        fault("x1001", 0, 1);
    }

    private static void faultOfManyPoints() {
        String twenty = manyPoints(20);
        noFault(twenty + ".", 20);
        fault(twenty, 79, 2);
        fault(twenty + "-", 80, 2);
        fault(twenty + "-.", 80, 1);
        fault(twenty + "-x", 80, 1);
        fault(twenty + "-1", 80, 4);
        fault(twenty + " 1,1.", 80, 4);
        fault(twenty + " 1001,1.", 80, 4);
        fault(twenty.substring(0, 76) + "1,1001-1", 78, 3);
    }

    private static void faultArguments() {
        for (int out : new int[] {-1, 2, Integer.MAX_VALUE, Integer.MIN_VALUE}) {
            due("fault " + out, new PantographArm().fault(out), Checker.INVALID);
            due("fault " + out, withText("1,1.").fault(out), Checker.INVALID);
        }
        PantographArm x = withText("1,1");
        due("ends too early", x.fault(0), 3);
        x.type('.');
        due("then not", x.fault(0), Checker.MISSING);
        x.type('.');
        due("then again", x.fault(1), 1);
    }

    private static void read() {
        PantographArm x = withText("1,20-0300,1000 7,8-7,9.");
        x.draw();
        due("read", x.read(), 1);
        due("text stays", x.count(17), 23);
        due("a change", x.count(16), 2);
        due("points", x.drawing(1, 0), 4);
        due("original", x.drawing(1, 1), Checker.MISSING);
        CHECK.dueAll("0", place(x, 1, 0), 1, 1, 20, 1);
        CHECK.dueAll("1", place(x, 1, 1), 300, 1, 1000, 1);
        CHECK.dueAll("2", place(x, 1, 2), 7, 1, 8, 1);
        long[] joined = new long[4];
        for (int i = 0; i < 4; i++) {
            joined[i] = x.pointInfo(1, i, 4);
        }
        CHECK.dueAll("joined", joined, 0, 1, 0, 1);
        due("lines wear nothing", x.count(10) + x.count(13), 0);
        due("lines", x.drawing(1, 6), 2);
        due("a further point", x.point(1, 5, 5, 1), 4);
        due("read again", x.read(), 2);
        due("undo", x.undo(), 3);
        due("drawings", x.count(0), 2);
    }

    private static void readErrors() {
        PantographArm x = new PantographArm();
        due("an empty text", x.read(), Checker.IMPOSSIBLE);
        typeAll(x, "1,1.");
        for (int i = 0; i < 6; i++) {
            due("read", x.read(), i);
        }
        due("a seventh", x.read(), Checker.LIMIT);
        x.type('.');
        due("a fault ahead of the limit", x.read(), Checker.IMPOSSIBLE);
        due("drawings", x.count(0), 6);
    }
}
