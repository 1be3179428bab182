/** The boundaries under "Texts", a test for each. */
final class EdgesOfTexts extends Edges {
    private static final String DIGITS = "0123456789";

    static void all() {
        initiallyEmpty();
        atMostHundredCharacters();
        hundredCharactersOfPoints();
        oneToFourDigits();
        zerosAhead();
        betweenPoints();
        pointBehindTheLast();
        positionsFromZero();
        charactersThatCannotStand();
        endsTooEarly();
        numbersAboveThousand();
        aTwentyFirstPoint();
        theFirstFault();
        lookedAtBehindFourDigits();
        lookedAtAheadOfAnotherCharacter();
        lookedAtWithTheText();
        emptyText();
    }

    private static void initiallyEmpty() {
        about("Texts", "initially empty");
        due("length", new PantographArm().count(17), 0);
        due("nothing to clear", new PantographArm().clearText(), 0);
        due("position", new PantographArm().fault(0), 0);
    }

    private static void atMostHundredCharacters() {
        about("Texts", "There is a text of at most 100 characters");
        PantographArm x = new PantographArm();
        for (int i = 1; i <= 100; i++) {
            due("type", x.type('~'), i);
        }
        due("a 101st", x.type('~'), Checker.LIMIT);
        due("length", x.count(17), 100);
        due("clear", x.clearText(), 100);
        due("room again", x.type('1'), 1);
    }

    private static void hundredCharactersOfPoints() {
        about("Texts", "points, each as x, \",\" and y");
        String hundred = "0001,0002-0003,0004 ".repeat(4) + "0005,0006-0007,0008.";
        noFault(hundred, 10);
        due("characters", hundred.length(), 100);
        PantographArm x = withText(hundred);
        due("a 101st", x.type('.'), Checker.LIMIT);
        due("still no fault", x.fault(1), Checker.MISSING);
        fault("0001,0002-0003,0004 ".repeat(4) + "0005,0006 1,1-7,0008", 100, 2);
    }

    private static void oneToFourDigits() {
        about("Texts", "numbers of 1 to 4 digits");
        noFault("1,2.", 1);
        noFault("12,34.", 1);
        noFault("123,456.", 1);
        noFault("1000,0999.", 1);
        fault(",1.", 0, 1);
        fault("1,.", 2, 1);
        fault("00000,1.", 4, 1);
        fault("1,00000.", 6, 1);
    }

    private static void zerosAhead() {
        about("Texts", "zeros may stand ahead");
        PantographArm x = withText("0001,0010-0100,01 00,000.");
        due("read", x.read(), 0);
        CHECK.dueAll("x", ofPoints(x, 0, 0), 1, 100, 0);
        CHECK.dueAll("y", ofPoints(x, 0, 2), 10, 1, 0);
    }

    private static void betweenPoints() {
        about("Texts", "between two of them \"-\" (joined) or \" \" (not joined)");
        PantographArm x = withText("1,1-2,2 3,3-4,4.");
        due("read", x.read(), 0);
        CHECK.dueAll("joined", ofPoints(x, 0, 4), 0, 1, 0, 1);
        fault("1,1--2,2.", 4, 1);
        fault("1,1  2,2.", 4, 1);
        fault("1,1 -2,2.", 4, 1);
        fault("1,1,2,2.", 3, 1);
        fault("-1,1.", 0, 1);
        fault(" 1,1.", 0, 1);
        fault("1,1-.", 4, 1);
        fault("1,1 .", 4, 1);
    }

    private static void pointBehindTheLast() {
        about("Texts", "behind the last one \".\"");
        noFault("1,1.", 1);
        fault("1,1", 3, 2);
        fault("1,1..", 4, 1);
        fault("1,1. ", 4, 1);
        fault("1,1.1", 4, 1);
        fault(".", 0, 1);
        fault("1.", 1, 1);
    }

    private static void positionsFromZero() {
        about("Texts", "The fault of the text is the position, from 0");
        fault("x", 0, 1);
        fault("1x", 1, 1);
        fault("1,1.x", 4, 1);
        fault("~".repeat(100), 0, 1);
        fault("1000,1000-".repeat(9) + "1000,1000x", 99, 1);
    }

    /** Every character behind every beginning after which other ones can stand. */
    private static void charactersThatCannotStand() {
        about("Texts", "of the first character that cannot stand where it stands");
        characters("", DIGITS);
        characters("1", DIGITS + ",");
        characters("012", DIGITS + ",");
        characters("0123", ",");
        characters("1,", DIGITS);
        characters("1,1", DIGITS + "- .");
        characters("1,012", DIGITS + "- .");
        characters("1,0123", "- .");
        characters("1,1-", DIGITS);
        characters("1,1 ", DIGITS);
        characters("1,1-2", DIGITS + ",");
        characters("1,1.", "");
        characters("1,1 2,2-3,3.", "");
    }

    private static void characters(String beginning, String canStand) {
        for (char character = 32; character <= 126; character++) {
            PantographArm x = withText(beginning + character);
            boolean isFault = canStand.indexOf(character) < 0;
            String told = "'" + beginning + character + "'";
            due(told, x.fault(1) == 1 ? 1 : 0, isFault ? 1 : 0);
            if (isFault) {
                due("position in " + told, x.fault(0), beginning.length());
                x.type('1');
                due("whatever follows " + told, x.fault(0), beginning.length());
            }
        }
    }

    private static void endsTooEarly() {
        about("Texts", "or its length, if it ends too early");
        String whole = "1,1000-0020,30 4,5.";
        for (int length = 0; length < whole.length(); length++) {
            fault(whole.substring(0, length), length, 2);
        }
        noFault(whole, 3);
    }

    private static void numbersAboveThousand() {
        about("Texts", "or the first digit of a number above 1000");
        noFault("1000,1000-999,0999.", 2);
        fault("1001,1.", 0, 3);
        fault("9999,1.", 0, 3);
        fault("1,1001.", 2, 3);
        fault("1,1-1010,1.", 4, 3);
        fault("1,1 1,1100.", 6, 3);
        fault("1000,2000.", 5, 3);
        fault("2000,2000.", 0, 3);
    }

    private static void aTwentyFirstPoint() {
        about("Texts", "or the first digit of a 21st point");
        String twenty = manyPoints(20);
        noFault(twenty + ".", 20);
        fault(twenty + "-2", 80, 4);
        fault(twenty + " 2,2.", 80, 4);
        fault(twenty + "-0000,0.", 80, 4);
        fault(twenty + "-", 80, 2);
        fault(twenty + " .", 80, 1);
        fault(twenty + "-,", 80, 1);
        fault(twenty + "x", 79, 1);
        fault(manyPoints(21) + ".", 80, 4);
        fault(manyPoints(25), 80, 4);
    }

    private static void theFirstFault() {
        about("Texts", "its reason is 1, 2, 3 or 4 for these");
        fault("x1001", 0, 1);
        fault("1,1x1001", 3, 1);
        fault("1001,x", 0, 3);
        fault("1,1001x", 2, 3);
        fault("1,", 2, 2);
        fault("x", 0, 1);
        fault(manyPoints(19) + " 1001,1 1,1", 76, 3);
        fault(manyPoints(19) + " 1x1 1,1", 77, 1);
        fault(manyPoints(20) + " 1x", 80, 4);
        fault(manyPoints(20) + "-9999", 80, 4);
    }

    private static void lookedAtBehindFourDigits() {
        about("Texts", "A number ends behind the most digits that it can have");
        fault("10010,1.", 0, 3);
        fault("1,10010.", 2, 3);
        fault("10000,1.", 4, 1);
        fault("1,10000.", 6, 1);
        fault("01001,1.", 4, 1);
    }

    private static void lookedAtAheadOfAnotherCharacter() {
        about("Texts", "ahead of another character");
        fault("1001x", 0, 3);
        fault("1001.", 0, 3);
        fault("1001 1,1.", 0, 3);
        fault("1,1001,", 2, 3);
        fault("1000x", 4, 1);
        fault("100x", 3, 1);
    }

    private static void lookedAtWithTheText() {
        about("Texts", "or with the text, and is looked at then, ahead of what follows");
        fault("1001", 0, 3);
        fault("1,1001", 2, 3);
        fault("1000", 4, 2);
        fault("100", 3, 2);
        fault("1,1000", 6, 2);
    }

    private static void emptyText() {
        about("Texts", "An empty text ends too early.");
        fault("", 0, 2);
        PantographArm x = withText("1,1.");
        x.clearText();
        due("position, cleared", x.fault(0), 0);
        due("reason, cleared", x.fault(1), 2);
        due("read, cleared", x.read(), Checker.IMPOSSIBLE);
    }
}
