import java.util.ArrayList;
import java.util.List;
import java.util.function.Supplier;
import java.util.function.ToLongFunction;

/** The boundaries under "Changes and errors", a test for each. */
final class EdgesOfChanges extends Edges {
    /** A trace ends here, so that no object has more than 512 calls. */
    private static final int MOST_TOLD = 300;

    static void all() {
        eachChangeRecords();
        changesThatChangeNothing();
        otherCallsRecordNothing();
        atMostFourStates();
        theOldestIsDropped();
        roundAndRound();
        changesBehindUndo();
        eachThingIsRecorded();
        drawingsAreRecorded();
        butTheText();
        invalidAheadOfNotPossible();
        notPossibleAheadOfLimit();
        invalidAheadOfLimit();
        invalidAheadOfNotFound();
        refusedInEmptyObject();
        refusedWithCopies();
        refusedWhenFull();
        refusedWhenBluntOrWorn();
        refusedWithFullText();
        noSuchDrawing();
        noSuchPoint();
        partsOfFractions();
        constantInvalid();
        constantNotPossible();
        constantLimit();
        constantNotFound();
    }

    // ---- the history

    private static void records(String what, PantographArm x, ToLongFunction<PantographArm> change) {
        int states = x.count(16);
        taken(0, change.applyAsLong(x));
        due("states after " + what, x.count(16), states + 1);
    }

    private static void eachChangeRecords() {
        about("Changes and errors",
            "The changes are the calls of arm, pivot, set, draw, point, remove, copy, sharpen and read");
        records("arm", new PantographArm(), x -> x.arm(2, 3));
        records("pivot", new PantographArm(), x -> x.pivot(2, 3));
        for (int what = 0; what < 5; what++) {
            int asked = what;
            records("set " + what, new PantographArm(), x -> x.set(asked, asked < 2 ? 1 : 10));
        }
        records("draw", new PantographArm(), x -> x.draw());
        records("point", with(), x -> x.point(0, 1, 2, 0));
        records("remove", with(), x -> x.remove(0));
        records("copy", with(1, 1, 0), x -> x.copy(0));
        records("sharpen", new PantographArm(), x -> x.sharpen());
        records("read", withText("1,1."), x -> x.read());
    }

    private static void changesThatChangeNothing() {
        about("Changes and errors", "(also if nothing becomes different)");
        records("the same arm", new PantographArm(), x -> x.arm(1, 1));
        records("the same pivot", new PantographArm(), x -> x.pivot(0, 0));
        int[] first = {0, 0, 1000, 1000, 100};
        for (int what = 0; what < 5; what++) {
            int asked = what;
            records("the same setting " + what, new PantographArm(), x -> x.set(asked, first[asked]));
        }
        records("a sharp pencil", new PantographArm(), x -> x.sharpen());
    }

    private static void otherCallsRecordNothing() {
        about("Changes and errors", "that return no error");
        PantographArm x = with(1, 1, 0);
        x.undo();
        due("one left, undo is no change", x.count(16), 1);
        x.point(0, 5, 5, 0);
        x.count(0);
        x.why(0);
        x.drawing(0, 0);
        x.ratio(0, 0);
        x.pointInfo(0, 0, 0);
        x.atOnce(0, 0, 0);
        x.alike(0, 0);
        x.armFor(0, 0);
        x.type('1');
        x.fault(0);
        x.clearText();
        due("none of these is a change", x.count(16), 2);
        x.draw();
        x.arm(0, 1);
        x.pivot(0, 1001);
        x.set(5, 0);
        x.point(0, 1, 1, 2);
        x.remove(2);
        x.copy(1);
        x.read();
        due("none of these is one that returns no error", x.count(16), 3);
    }

    private static void atMostFourStates() {
        about("Changes and errors", "A history of at most 4 states is kept");
        PantographArm x = new PantographArm();
        int[] states = {1, 2, 3, 4, 4, 4};
        for (int i = 0; i < states.length; i++) {
            x.arm(i + 2, 1);
            due("states", x.count(16), states[i]);
        }
        for (int left = 3; left >= 0; left--) {
            due("undo", x.undo(), left);
            due("states", x.count(16), left);
        }
        due("a fifth undo", x.undo(), Checker.IMPOSSIBLE);
        due("states", x.count(16), 0);
    }

    private static void theOldestIsDropped() {
        about("Changes and errors", "if there are 5 states then, the oldest one is dropped");
        PantographArm four = new PantographArm();
        PantographArm five = new PantographArm();
        five.pivot(500, 500);
        for (int i = 1; i <= 4; i++) {
            four.pivot(i, i);
            five.pivot(i, i);
        }
        for (int i = 3; i >= 0; i--) {
            four.undo();
            five.undo();
            due("with four changes", four.count(3), i);
            due("with five changes", five.count(3), i == 0 ? 500 : i);
        }
        due("all undone", four.undo(), Checker.IMPOSSIBLE);
        due("the first change stays", five.undo(), Checker.IMPOSSIBLE);
        due("px", five.count(3), 500);
    }

    private static void roundAndRound() {
        about("Changes and errors", "each change records everything before it");
        PantographArm x = new PantographArm();
        for (int i = 1; i <= 500; i++) {
            x.pivot(i, 1000 - i);
        }
        for (int i = 499; i >= 496; i--) {
            due("undo", x.undo(), i - 496);
            due("px", x.count(3), i);
        }
        due("the 509th call", x.undo(), Checker.IMPOSSIBLE);
        due("the 510th call", x.pivot(7, 8), 4960504);
        due("the 511th call", x.undo(), 0);
        due("the 512th call", x.count(4), 504);
    }

    private static void changesBehindUndo() {
        about("Changes and errors", "A history of at most 4 states is kept: each change records everything");
        PantographArm x = new PantographArm();
        for (int i = 1; i <= 6; i++) {
            x.pivot(i, 0);
        }
        x.undo();
        x.undo();
        x.pivot(70, 0);
        x.pivot(80, 0);
        x.pivot(90, 0);
        int[] before = {80, 70, 4, 3};
        for (int i = 0; i < before.length; i++) {
            due("undo", x.undo(), 3 - i);
            due("px", x.count(3), before[i]);
        }
        due("no more", x.undo(), Checker.IMPOSSIBLE);
    }

    private static void eachThingIsRecorded() {
        about("Changes and errors", "everything before it but the text, and");
        PantographArm x = with(0, 0, 0, 30, 0, 1, 1000, 0, 1);
        x.set(4, 9);
        x.set(2, 500);
        x.copy(0);
        x.sharpen();
        x.copy(0);
        long[] first = counts(x);
        CHECK.dueAll("worn", first, 3, 1, 1, 0, 0, 0, 0, 500, 1000, 9, 30, 0, 9, 2, 60, 2, 4, 0);
        x.sharpen();
        x.arm(7, 9);
        x.pivot(3, 4);
        x.copy(0);
        for (int i = 0; i < 4; i++) {
            x.undo();
        }
        first[16] = 0;
        CHECK.dueAll("pencil, arm, pivot, lines", counts(x), first);
        for (int what = 0; what < 5; what++) {
            PantographArm y = new PantographArm();
            int before = y.count(5 + what);
            y.set(what, what < 2 ? 2 : 10);
            y.undo();
            due("setting " + what, y.count(5 + what), before);
        }
    }

    private static void drawingsAreRecorded() {
        about("Changes and errors", "each change records everything");
        PantographArm x = with(10, 20, 0, 12, 23, 1, 50, 60, 0);
        x.pivot(4, 5);
        x.set(0, 2);
        x.set(1, 1);
        chain(x, 5, 2);
        x.set(0, 1);
        chain(x, 1, 3);
        List<Long> before = trace(x, false);
        x.remove(2);
        x.remove(1);
        x.point(0, 9, 9, 1);
        x.undo();
        x.undo();
        x.undo();
        List<Long> after = trace(x, false);
        due("told", after.size(), before.size());
        for (int i = 0; i < before.size() && i < after.size(); i++) {
            // The history is shorter then: it is the one thing that undo does not restore.
            due("told " + i, after.get(i), i == 16 ? 1 : before.get(i));
        }
    }

    private static void butTheText() {
        about("Changes and errors", "everything before it but the text");
        PantographArm x = withText("1,1");
        x.draw();
        x.type('.');
        due("undo", x.undo(), 0);
        due("what was typed stays", x.count(17), 4);
        due("without a fault", x.fault(0), Checker.MISSING);
        x.read();
        x.clearText();
        x.undo();
        due("what was cleared does not come back", x.count(17), 0);
        due("its drawing is gone", x.count(0), 0);
    }

    // ---- several errors

    private static void invalidAheadOfNotPossible() {
        about("Changes and errors", "INVALID_ARGUMENT is returned rather than NOT_POSSIBLE");
        PantographArm x = with(1, 1, 0);
        x.copy(0);
        due("x of a point of a copy", x.point(1, 1001, 0, 0), Checker.INVALID);
        due("y of a point of a copied one", x.point(0, 0, -1, 0), Checker.INVALID);
        due("joined of a point of a copy", x.point(1, 0, 0, 2), Checker.INVALID);
        due("in range", x.point(1, 1000, 0, 0), Checker.IMPOSSIBLE);
        due("remove of none", x.remove(2), Checker.INVALID);
        x.set(4, 1);
        due("copy of none", x.copy(2), Checker.INVALID);
        due("why of none", x.why(2), Checker.INVALID);
    }

    private static void notPossibleAheadOfLimit() {
        about("Changes and errors", "NOT_POSSIBLE rather than LIMIT_REACHED");
        PantographArm x = withText(manyPoints(20) + ".");
        x.read();
        due("the limit", x.point(0, 1, 1, 1), Checker.LIMIT);
        x.copy(0);
        due("a full original with a copy", x.point(0, 1, 1, 1), Checker.IMPOSSIBLE);
        due("a full copy", x.point(1, 1, 1, 1), Checker.IMPOSSIBLE);
        for (int i = 2; i < 6; i++) {
            x.draw();
        }
        due("read at the limit", x.read(), Checker.LIMIT);
        x.type('.');
        due("a fault at the limit", x.read(), Checker.IMPOSSIBLE);
        due("a copy at the limit", x.copy(0), Checker.IMPOSSIBLE);
    }

    private static void invalidAheadOfLimit() {
        about("Changes and errors", "If several errors apply to a call, INVALID_ARGUMENT is returned");
        PantographArm x = withText(manyPoints(20) + ".");
        x.read();
        due("x of a 21st point", x.point(0, -1, 0, 0), Checker.INVALID);
        due("y of a 21st point", x.point(0, 0, 1001, 0), Checker.INVALID);
        due("joined of a 21st point", x.point(0, 0, 0, -1), Checker.INVALID);
        while (x.count(17) < 100) {
            x.type('~');
        }
        due("31 into a full text", x.type(31), Checker.INVALID);
        due("127 into a full text", x.type(127), Checker.INVALID);
        due("126 into a full text", x.type(126), Checker.LIMIT);
    }

    private static void invalidAheadOfNotFound() {
        about("Changes and errors", "LIMIT_REACHED rather than NOT_FOUND");
        PantographArm x = withText("1,1.");
        x.read();
        x.copy(0);
        chain(x, 20, 1, 20, 1);
        due("what of no fault", x.fault(2), Checker.INVALID);
        due("no fault", x.fault(1), Checker.MISSING);
        due("what was copied of none", x.drawing(4, 1), Checker.INVALID);
        due("what was copied of an original", x.drawing(0, 1), Checker.MISSING);
        due("no arm for none", x.armFor(3, 4), Checker.INVALID);
        due("no arm", x.armFor(3, 0), Checker.MISSING);
    }

    // ---- a refused call changes nothing

    /** All that can be told of a state, and of those before it, as far as the calls reach. */
    private static List<Long> trace(PantographArm x, boolean withHistory) {
        List<Long> told = new ArrayList<>();
        long left;
        do {
            tellCounts(x, told);
            for (int number = 0; number < x.count(0); number++) {
                tellDrawing(x, number, told);
            }
            left = withHistory ? x.undo() : -1;
            told.add(left);
        } while (left >= 0 && told.size() < MOST_TOLD);
        return told;
    }

    private static void tellCounts(PantographArm x, List<Long> told) {
        for (long count : counts(x)) {
            told.add(count);
        }
        told.add((long) x.fault(0));
        told.add((long) x.fault(1));
    }

    private static void tellDrawing(PantographArm x, int number, List<Long> told) {
        for (int what = 0; what < 10 && told.size() < MOST_TOLD; what++) {
            told.add((long) x.drawing(number, what));
        }
        told.add((long) x.why(number));
        told.add((long) x.ratio(number, 0));
        told.add((long) x.ratio(number, 1));
        for (int point = 0; point < x.drawing(number, 0) && told.size() < MOST_TOLD; point++) {
            for (int what = 0; what < 7; what++) {
                told.add(x.pointInfo(number, point, what));
            }
            told.add(x.atOnce(number, point, 0));
            told.add(x.atOnce(number, point, 2));
        }
    }

    /** The same calls with the refused one and without it leave objects that tell the same. */
    private static void refused(String what, Supplier<PantographArm> made, long error,
            ToLongFunction<PantographArm> call) {
        PantographArm with = made.get();
        due(what, call.applyAsLong(with), error);
        List<Long> told = trace(with, true);
        List<Long> untouched = trace(made.get(), true);
        due("told after " + what, told.size(), untouched.size());
        for (int i = 0; i < told.size() && i < untouched.size(); i++) {
            due("told " + i + " after " + what, told.get(i), untouched.get(i));
        }
    }

    private static void refusedInEmptyObject() {
        about("Changes and errors", "A call that returns an error changes nothing.");
        Supplier<PantographArm> made = PantographArm::new;
        refused("arm", made, Checker.INVALID, x -> x.arm(5, 21));
        refused("arm", made, Checker.INVALID, x -> x.arm(0, 5));
        refused("pivot", made, Checker.INVALID, x -> x.pivot(5, 1001));
        refused("pivot", made, Checker.INVALID, x -> x.pivot(-1, 5));
        refused("set", made, Checker.INVALID, x -> x.set(0, 3));
        refused("set", made, Checker.INVALID, x -> x.set(1, 51));
        refused("set", made, Checker.INVALID, x -> x.set(2, 9));
        refused("set", made, Checker.INVALID, x -> x.set(3, 1001));
        refused("set", made, Checker.INVALID, x -> x.set(4, 0));
        refused("set", made, Checker.INVALID, x -> x.set(5, 10));
        refused("count", made, Checker.INVALID, x -> x.count(18));
        refused("point", made, Checker.INVALID, x -> x.point(0, 1, 1, 0));
        refused("remove", made, Checker.INVALID, x -> x.remove(0));
        refused("copy", made, Checker.INVALID, x -> x.copy(0));
        refused("undo", made, Checker.IMPOSSIBLE, x -> x.undo());
        refused("type", made, Checker.INVALID, x -> x.type(127));
        refused("fault", made, Checker.INVALID, x -> x.fault(2));
        refused("read", made, Checker.IMPOSSIBLE, x -> x.read());
    }

    private static PantographArm copied() {
        PantographArm x = with(10, 20, 0, 30, 45, 1);
        x.pivot(3, 4);
        chain(x, 2, 3, 5, 7);
        typeAll(x, "1,1-x");
        x.draw();
        return x;
    }

    private static void refusedWithCopies() {
        about("Changes and errors", "A call that returns an error");
        Supplier<PantographArm> made = EdgesOfChanges::copied;
        refused("arm", made, Checker.INVALID, x -> x.arm(21, 5));
        refused("pivot", made, Checker.INVALID, x -> x.pivot(1001, 5));
        refused("set", made, Checker.INVALID, x -> x.set(-1, 10));
        refused("point of a copied one", made, Checker.IMPOSSIBLE, x -> x.point(0, 1, 1, 1));
        refused("point of a copy", made, Checker.IMPOSSIBLE, x -> x.point(1, 1, 1, 1));
        refused("point", made, Checker.INVALID, x -> x.point(3, 1, 1, 2));
        refused("remove of a copied one", made, Checker.IMPOSSIBLE, x -> x.remove(0));
        refused("remove of a copied copy", made, Checker.IMPOSSIBLE, x -> x.remove(1));
        refused("remove", made, Checker.INVALID, x -> x.remove(4));
        refused("copy without points", made, Checker.IMPOSSIBLE, x -> x.copy(3));
        refused("copy", made, Checker.INVALID, x -> x.copy(-1));
        refused("why", made, Checker.INVALID, x -> x.why(4));
        refused("drawing", made, Checker.MISSING, x -> x.drawing(0, 1));
        refused("drawing", made, Checker.INVALID, x -> x.drawing(0, 12));
        refused("ratio", made, Checker.INVALID, x -> x.ratio(0, 2));
        refused("pointInfo", made, Checker.INVALID, x -> x.pointInfo(0, 2, 0));
        refused("atOnce", made, Checker.INVALID, x -> x.atOnce(0, 0, 4));
        refused("alike", made, Checker.INVALID, x -> x.alike(0, 4));
        refused("armFor", made, Checker.INVALID, x -> x.armFor(4, 0));
        refused("read", made, Checker.IMPOSSIBLE, x -> x.read());
    }

    private static PantographArm full() {
        PantographArm x = withText(manyPoints(20) + ".");
        x.read();
        for (int i = 1; i < 6; i++) {
            original(x, i, i, 0);
        }
        return x;
    }

    private static void refusedWhenFull() {
        about("Changes and errors", "returns an error changes nothing");
        Supplier<PantographArm> made = EdgesOfChanges::full;
        refused("draw", made, Checker.LIMIT, x -> x.draw());
        refused("read", made, Checker.LIMIT, x -> x.read());
        refused("point", made, Checker.LIMIT, x -> x.point(0, 1, 1, 1));
        refused("copy", made, Checker.IMPOSSIBLE, x -> x.copy(1));
    }

    private static PantographArm worn() {
        PantographArm x = new PantographArm();
        for (int i = 0; i < 10; i++) {
            x.sharpen();
        }
        original(x, 0, 0, 0, 900, 1, 1);
        x.copy(0);
        return x;
    }

    private static PantographArm tooFine() {
        PantographArm x = with(0, 0, 0, 20, 0, 1);
        chain(x, 1, 20, 1, 20, 1, 20);
        x.arm(1, 20);
        return x;
    }

    private static void refusedWhenBluntOrWorn() {
        about("Changes and errors", "an error changes nothing");
        refused("sharpen", EdgesOfChanges::worn, Checker.LIMIT, x -> x.sharpen());
        refused("copy with a blunt pencil", EdgesOfChanges::worn, Checker.IMPOSSIBLE, x -> x.copy(0));
        refused("copy too fine", EdgesOfChanges::tooFine, Checker.IMPOSSIBLE, x -> x.copy(3));
        refused("no such arm", EdgesOfChanges::tooFine, Checker.MISSING, x -> x.armFor(0, 3));
    }

    private static void refusedWithFullText() {
        about("Changes and errors", "changes nothing.");
        Supplier<PantographArm> made = () -> withText("0".repeat(100));
        refused("type", made, Checker.LIMIT, x -> x.type('1'));
        refused("type", made, Checker.INVALID, x -> x.type(31));
        refused("no fault", () -> withText("1,1."), Checker.MISSING, x -> x.fault(0));
    }

    // ---- no such drawing or point, parts, constants

    private static void noSuchDrawing() {
        about("Changes and errors", "If there is no drawing");
        drawingNumber((x, number) -> x.point(number, 0, 0, 0));
        drawingNumber((x, number) -> x.remove(number));
        drawingNumber((x, number) -> x.copy(number));
        drawingNumber((x, number) -> x.why(number));
        drawingNumber((x, number) -> x.drawing(number, 0));
        drawingNumber((x, number) -> x.ratio(number, 0));
        drawingNumber((x, number) -> x.pointInfo(number, 0, 0));
        drawingNumber((x, number) -> x.atOnce(number, 0, 0));
        drawingNumber((x, number) -> x.alike(number, 0));
        drawingNumber((x, number) -> x.alike(0, number));
        drawingNumber((x, number) -> x.armFor(number, 0));
        drawingNumber((x, number) -> x.armFor(0, number));
    }

    private static void noSuchPoint() {
        about("Changes and errors", "or point with a certain number, this is INVALID_ARGUMENT");
        PantographArm x = with(1, 1, 0, 2, 2, 0);
        x.draw();
        due("of a drawing without points", x.pointInfo(1, 0, 0), Checker.INVALID);
        due("of it at once", x.atOnce(1, 0, 0), Checker.INVALID);
        due("behind the last one", x.pointInfo(0, 2, 0), Checker.INVALID);
        due("behind the last one at once", x.atOnce(0, 2, 0), Checker.INVALID);
        for (int out : OUT) {
            due("point " + out, x.pointInfo(0, out, 0), Checker.INVALID);
            due("point " + out + " at once", x.atOnce(0, out, 0), Checker.INVALID);
        }
        x.undo();
        x.undo();
        due("undone", x.pointInfo(0, 1, 0), Checker.INVALID);
        due("undone, at once", x.atOnce(0, 1, 0), Checker.INVALID);
        due("the one ahead of it", x.pointInfo(0, 0, 0), 1);
    }

    private static void partsOfFractions() {
        about("Changes and errors", "part is 0 for the numerator and 1 for the denominator");
        PantographArm x = with(1, 1, 0);
        chain(x, 4, 14);
        due("numerator", x.ratio(1, 0), 2);
        due("denominator", x.ratio(1, 1), 7);
        due("-1", x.ratio(1, -1), Checker.INVALID);
        due("2", x.ratio(1, 2), Checker.INVALID);
    }

    private static void constantInvalid() {
        about("Changes and errors", "`INVALID_ARGUMENT = -2000000001`");
        due("the constant", PantographArm.INVALID_ARGUMENT, -2000000001);
        due("an argument out of its range", new PantographArm().arm(0, 1), -2000000001);
        due("no such drawing", new PantographArm().remove(0), -2000000001);
        due("no such point", with().pointInfo(0, 0, 0), -2000000001);
    }

    private static void constantNotPossible() {
        about("Changes and errors", "`NOT_POSSIBLE = -2000000002`");
        due("the constant", PantographArm.NOT_POSSIBLE, -2000000002);
        due("undo", new PantographArm().undo(), -2000000002);
        due("read", new PantographArm().read(), -2000000002);
        due("copy", with().copy(0), -2000000002);
    }

    private static void constantLimit() {
        about("Changes and errors", "`LIMIT_REACHED = -2000000003`");
        due("the constant", PantographArm.LIMIT_REACHED, -2000000003);
        due("draw", full().draw(), -2000000003);
        due("sharpen", worn().sharpen(), -2000000003);
    }

    private static void constantNotFound() {
        about("Changes and errors", "`NOT_FOUND = -2000000004`");
        due("the constant", PantographArm.NOT_FOUND, -2000000004);
        due("fault", withText("1,1.").fault(0), -2000000004);
        due("drawing", with().drawing(0, 1), -2000000004);
        due("armFor", tooFine().armFor(0, 3), -2000000004);
    }
}
