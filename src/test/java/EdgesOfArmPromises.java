/** The boundaries of promises 1 to 6, a test for each sentence. */
final class EdgesOfArmPromises extends Edges {
    static void all() {
        newObject();
        armA();
        armB();
        armReturns();
        pivotX();
        pivotY();
        pivotReturns();
        setWhat();
        setValue();
        setReturns();
        countWhat();
        countReturns();
        sharpenReturns();
        sharpenSharpens();
    }

    private static void newObject() {
        about("Promise 1: A new object", "Creates an arm with a sharp pencil, without drawings.");
        PantographArm one = new PantographArm();
        PantographArm other = new PantographArm();
        one.arm(2, 3);
        one.draw();
        one.sharpen();
        one.type('1');
        CHECK.dueAll("nothing of another one", counts(other),
            0, 1, 1, 0, 0, 0, 0, 1000, 1000, 100, 0, 0, 10, 0, 0, 0, 0, 0);
        due("no drawing", other.drawing(0, 0), Checker.INVALID);
        due("nothing to undo", other.undo(), Checker.IMPOSSIBLE);
    }

    private static void armA() {
        about("Promise 2: arm", "`a`: 1 to 20");
        range(1, 20, a -> new PantographArm().arm(a, 1));
        range(1, 20, a -> new PantographArm().arm(a, 20));
    }

    private static void armB() {
        about("Promise 2: arm", "`b`: 1 to 20");
        range(1, 20, b -> new PantographArm().arm(1, b));
        range(1, 20, b -> new PantographArm().arm(20, b));
    }

    private static void armReturns() {
        about("Promise 2: arm", "Returns 100 times the previous a, plus the previous b");
        PantographArm x = new PantographArm();
        due("at first", x.arm(1, 20), 101);
        due("1 / 20", x.arm(20, 1), 120);
        due("a out of range", x.arm(0, 3), Checker.INVALID);
        due("b out of range", x.arm(3, 21), Checker.INVALID);
        due("20 / 1, as before", x.arm(20, 20), 2001);
        due("20 / 20", x.arm(1, 1), 2020);
    }

    private static void pivotX() {
        about("Promise 3: pivot", "`x`: 0 to 1000");
        range(0, 1000, x -> new PantographArm().pivot(x, 0));
        range(0, 1000, x -> new PantographArm().pivot(x, 1000));
    }

    private static void pivotY() {
        about("Promise 3: pivot", "`y`: 0 to 1000");
        range(0, 1000, y -> new PantographArm().pivot(0, y));
        range(0, 1000, y -> new PantographArm().pivot(1000, y));
    }

    private static void pivotReturns() {
        about("Promise 3: pivot", "Returns 10000 times the previous x, plus the previous y");
        PantographArm x = new PantographArm();
        due("at first", x.pivot(0, 1000), 0);
        due("0, 1000", x.pivot(1000, 1000), 1000);
        due("x out of range", x.pivot(1001, 3), Checker.INVALID);
        due("y out of range", x.pivot(3, -1), Checker.INVALID);
        due("1000, 1000, as before", x.pivot(1000, 0), 10001000);
        due("1000, 0", x.pivot(0, 0), 10000000);
    }

    private static void setWhat() {
        about("Promise 4: set", "`what`: 0: the kind (0 to 2); 1: the play (0 to 50)");
        range(0, 4, what -> new PantographArm().set(what, what < 1 ? 2 : 10));
        range(0, 2, kind -> new PantographArm().set(0, kind));
        range(0, 50, play -> new PantographArm().set(1, play));
        range(10, 1000, w -> new PantographArm().set(2, w));
        range(10, 1000, h -> new PantographArm().set(3, h));
        range(1, 1000, soft -> new PantographArm().set(4, soft));
        due("soft 0 beside no drawing", new PantographArm().set(4, 0), Checker.INVALID);
    }

    private static void setValue() {
        about("Promise 4: set", "`value`: a value in its range");
        // Each value stands in the range of some other thing.
        PantographArm x = new PantographArm();
        due("kind 3", x.set(0, 3), Checker.INVALID);
        due("play 51", x.set(1, 51), Checker.INVALID);
        due("W 2", x.set(2, 2), Checker.INVALID);
        due("H 9", x.set(3, 9), Checker.INVALID);
        due("soft 0", x.set(4, 0), Checker.INVALID);
        CHECK.dueAll("nothing is set", counts(x), counts(new PantographArm()));
    }

    private static void setReturns() {
        about("Promise 4: set", "Returns the previous value");
        int[][] values = {{0, 2, 0}, {0, 50, 0}, {1000, 10, 1000}, {1000, 10, 1000}, {100, 1000, 1}};
        PantographArm x = new PantographArm();
        for (int what = 0; what < 5; what++) {
            due("first of " + what, x.set(what, values[what][1]), values[what][0]);
            due("out of range", x.set(what, 1001), Checker.INVALID);
            due("second of " + what, x.set(what, values[what][2]), values[what][1]);
            due("third of " + what, x.count(5 + what), values[what][2]);
        }
    }

    private static void countWhat() {
        about("Promise 5: count", "`what`: 0: drawings; 1: a; 2: b");
        PantographArm x = with(0, 0, 0, 900, 0, 1, 901, 0, 1, 899, 0, 1);
        x.draw();
        x.set(2, 900);
        x.sharpen();
        x.copy(0);
        x.arm(3, 4);
        x.pivot(5, 6);
        x.set(0, 2);
        x.set(1, 7);
        x.set(3, 800);
        x.set(4, 100);
        typeAll(x, "12");
        CHECK.dueAll("each by its number", counts(x), 3, 3, 4, 5, 6, 2, 7, 900, 800, 100, 900, 1, 9, 1, 900, 2, 4, 2);
        x.remove(2);
        due("lines were drawn, whether they are there or not", x.count(13), 1);
        due("so was their length", x.count(14), 900);
        due("and left out", x.count(15), 2);
        x.sharpen();
        due("lines after sharpening", x.count(13), 1);
        due("their length after sharpening", x.count(14), 900);
    }

    private static void countReturns() {
        about("Promise 5: count", "INVALID_ARGUMENT if what is out of range");
        range(0, 17, what -> new PantographArm().count(what));
        range(0, 17, what -> with(1, 1, 0).count(what));
    }

    private static void sharpenReturns() {
        about("Promise 6: sharpen", "Returns the wear that it had; LIMIT_REACHED if it was sharpened 10 times.");
        PantographArm x = with(0, 0, 0, 50, 0, 1);
        x.copy(0);
        due("worn", x.sharpen(), 50);
        for (int i = 2; i <= 10; i++) {
            due("sharp", x.sharpen(), 0);
        }
        due("an 11th time", x.sharpen(), Checker.LIMIT);
        due("a 12th time", x.sharpen(), Checker.LIMIT);
        due("undo the tenth", x.undo(), 3);
        due("the tenth again", x.sharpen(), 0);
        due("an 11th time", x.sharpen(), Checker.LIMIT);
    }

    private static void sharpenSharpens() {
        about("Promise 6: sharpen", "Sharpens the pencil.");
        PantographArm x = with(0, 0, 0, 9, 0, 1);
        x.set(4, 1);
        x.copy(0);
        due("blunt", x.count(11), 1);
        x.sharpen();
        due("sharp", x.count(11), 0);
        x.undo();
        due("blunt again", x.count(11), 1);
        due("its wear again", x.count(10), 9);
    }
}
