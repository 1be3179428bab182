/** The boundaries of promises 18 to 22, a test for each sentence. */
final class EdgesOfTextPromises extends Edges {
    static void all() {
        undoRestores();
        undoReturns();
        typeAppends();
        typeCharacter();
        typeReturns();
        clearTextEmpties();
        clearTextReturns();
        faultWhat();
        faultReturns();
        readMakes();
        readReturns();
    }

    private static void undoRestores() {
        about("Promise 18: undo", "Restores the latest state of the history, which is removed from it.");
        PantographArm x = new PantographArm();
        x.arm(2, 1);
        x.arm(3, 1);
        x.undo();
        due("the latest one", x.count(1), 2);
        x.undo();
        due("not the same one again", x.count(1), 1);
        due("none is left", x.count(16), 0);
        x.arm(4, 1);
        due("one", x.count(16), 1);
        x.undo();
        due("what was before that", x.count(1), 1);
    }

    private static void undoReturns() {
        about("Promise 18: undo", "NOT_POSSIBLE if it is empty");
        PantographArm x = new PantographArm();
        due("of a new one", x.undo(), Checker.IMPOSSIBLE);
        for (int i = 0; i < 9; i++) {
            x.sharpen();
        }
        for (int left = 3; left >= 0; left--) {
            due("undo", x.undo(), left);
        }
        due("empty", x.undo(), Checker.IMPOSSIBLE);
        due("empty still", x.undo(), Checker.IMPOSSIBLE);
        due("as it was", x.count(12), 5);
    }

    private static void typeAppends() {
        about("Promise 19: type", "Appends a character to the text.");
        PantographArm x = withText("12,3");
        x.type('4');
        x.type('.');
        x.read();
        CHECK.dueAll("at its end", place(x, 0, 0), 12, 1, 34, 1);
    }

    private static void typeCharacter() {
        about("Promise 19: type", "`character`: its code, 32 to 126");
        range(32, 126, character -> new PantographArm().type(character));
        due("32 + 65536", new PantographArm().type(65568), Checker.INVALID);
        due("-1", new PantographArm().type(-1), Checker.INVALID);
        due("0", new PantographArm().type(0), Checker.INVALID);
        due("a line's end", new PantographArm().type(10), Checker.INVALID);
    }

    private static void typeReturns() {
        about("Promise 19: type", "LIMIT_REACHED if the text has 100 characters");
        PantographArm x = new PantographArm();
        for (int i = 1; i <= 99; i++) {
            due("length", x.type('0'), i);
        }
        due("out of range", x.type(127), Checker.INVALID);
        due("the 100th", x.type('0'), 100);
        due("a 101st", x.type('0'), Checker.LIMIT);
        due("a 101st, out of range", x.type(127), Checker.INVALID);
        due("length", x.count(17), 100);
    }

    private static void clearTextEmpties() {
        about("Promise 20: clearText", "Empties the text.");
        PantographArm x = withText("1,1.");
        x.clearText();
        due("length", x.count(17), 0);
        due("a fault again", x.fault(1), 2);
        typeAll(x, "2");
        due("from its beginning", x.fault(0), 1);
    }

    private static void clearTextReturns() {
        about("Promise 20: clearText", "Returns the length it had.");
        due("an empty one", new PantographArm().clearText(), 0);
        PantographArm x = withText("~".repeat(100));
        due("a full one", x.clearText(), 100);
        due("then", x.clearText(), 0);
        x.type(' ');
        due("a single one", x.clearText(), 1);
    }

    private static void faultWhat() {
        about("Promise 21: fault", "`what`: 0: its position; 1: its reason");
        PantographArm x = withText("1,2-3333,1.");
        due("position", x.fault(0), 4);
        due("reason", x.fault(1), 3);
        range(0, 1, what -> x.fault(what));
    }

    private static void faultReturns() {
        about("Promise 21: fault", "INVALID_ARGUMENT if what is out of range; NOT_FOUND if the text has no fault");
        PantographArm x = withText("1,1");
        due("a fault", x.fault(0), 3);
        x.type('.');
        due("no position", x.fault(0), Checker.MISSING);
        due("no reason", x.fault(1), Checker.MISSING);
        due("out of range without a fault", x.fault(2), Checker.INVALID);
        due("out of range without a fault", x.fault(-1), Checker.INVALID);
        x.type('.');
        due("a fault again", x.fault(0), 4);
        due("its reason", x.fault(1), 1);
    }

    private static void readMakes() {
        about("Promise 22: read", "Makes the points of the text a new original; the text stays.");
        PantographArm x = withText(manyPoints(19) + " 1000,0.");
        x.draw();
        due("read", x.read(), 1);
        due("points", x.drawing(1, 0), 20);
        due("the last one", x.pointInfo(1, 19, 0), 1000);
        due("an original", x.drawing(1, 1), Checker.MISSING);
        due("lines", x.drawing(1, 6), 9);
        due("the text stays", x.count(17), 83);
        due("without a fault", x.fault(0), Checker.MISSING);
        due("a 21st point", x.point(1, 1, 1, 1), Checker.LIMIT);
        PantographArm one = withText("7,8.");
        one.read();
        due("a single point", one.drawing(0, 0), 1);
        due("one more by hand", one.point(0, 1, 1, 1), 1);
        one.read();
        due("the text has none more", one.drawing(1, 0), 1);
    }

    private static void readReturns() {
        about("Promise 22: read", "NOT_POSSIBLE if the text has a fault; LIMIT_REACHED if there are 6 drawings");
        PantographArm x = new PantographArm();
        due("an empty text", x.read(), Checker.IMPOSSIBLE);
        typeAll(x, "1,1");
        due("too early", x.read(), Checker.IMPOSSIBLE);
        x.type('.');
        for (int i = 0; i < 6; i++) {
            due("read", x.read(), i);
        }
        due("a seventh", x.read(), Checker.LIMIT);
        x.type('x');
        due("a fault ahead of that", x.read(), Checker.IMPOSSIBLE);
        due("six", x.count(0), 6);
        due("the history", x.count(16), 4);
    }
}
