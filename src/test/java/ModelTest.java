import java.util.Random;

/** Runs of calls, drawn by fixed seeds, in which the class has to answer as the model does. */
public final class ModelTest {
    private static final int CALLS = 512;
    private static final int[] WRONG = {-1, 6, 20, 21, 1001, -7, Integer.MAX_VALUE, Integer.MIN_VALUE};
    private static final int[][] CANCELLING = {{19, 20}, {17, 19}, {13, 17}, {11, 13}, {7, 11}, {1, 20}, {20, 1},
        {20, 20}, {19, 19}};
    /** One behind the other they make places with numerators that an int would not hold. */
    private static final int[][] FAR = {{20, 1}, {20, 1}, {20, 1}, {19, 20}, {19, 20}};
    private static final int LARGE = 0;
    private static final int SMALL = 1;
    private static final int DISTANT = 3;
    private static final Checker CHECK = new Checker();

    private final Random random;
    private final int wildness;
    private final PantographArm arm = new PantographArm();
    private final Model model = new Model();
    private final StringBuilder calls = new StringBuilder();
    private int made = 0;

    private ModelTest(int seed) {
        random = new Random(seed);
        wildness = seed % 4;
    }

    public static void main(String[] args) {
        for (int seed = 0; seed < 1500 && !CHECK.hasFailed(); seed++) {
            new ModelTest(seed).run(seed);
        }
        CHECK.finish();
    }

    private void run(int seed) {
        if (wildness == DISTANT) {
            makeDistantCopies();
        }
        while (made < CALLS && !CHECK.hasFailed()) {
            int kind = random.nextInt(100);
            if (kind < 55) {
                change();
            } else if (kind < 85) {
                look();
            } else {
                typeSome();
            }
        }
        if (CHECK.hasFailed()) {
            System.out.println("seed " + seed + ":" + calls);
        }
    }

    private void due(String call, long got, long want) {
        made++;
        calls.append("\n  ").append(call).append(" = ").append(got);
        CHECK.due(call, got, want);
    }

    /** A number from least to most, but now and then one that is out of every range. */
    private int number(int least, int most) {
        if (random.nextInt(60) == 0) {
            return WRONG[random.nextInt(WRONG.length)];
        }
        int edge = random.nextInt(12);
        return edge == 0 ? least : edge == 1 ? most : least + random.nextInt(most - least + 1);
    }

    private int drawingNumber() {
        int drawings = model.count(0);
        boolean latest = random.nextInt(3) == 0 && drawings > 0;
        return latest ? drawings - 1 : number(0, Math.max(drawings - 1, 0));
    }

    private void change() {
        switch (random.nextInt(14)) {
            case 0: case 1: changeArm(); break;
            case 2: changePivot(); break;
            case 3: changeSetting(); break;
            case 4: due("sharpen()", arm.sharpen(), model.sharpen()); break;
            case 5: due("draw()", arm.draw(), model.draw()); break;
            case 6: case 7: case 8: addPoint(); break;
            case 9: case 10: case 11: makeCopy(); break;
            case 12: takeAway(); break;
            default: due("undo()", arm.undo(), model.undo()); break;
        }
    }

    private void changeArm() {
        int[] pair = CANCELLING[random.nextInt(CANCELLING.length)];
        boolean any = random.nextInt(3) == 0;
        int a = any ? number(1, 20) : pair[0];
        int b = any ? number(1, 20) : pair[1];
        due("arm(" + a + ", " + b + ")", arm.arm(a, b), model.arm(a, b));
    }

    private void changePivot() {
        int most = wildness == LARGE || wildness == DISTANT ? 1000 : 30;
        int x = number(0, most);
        int y = number(0, most);
        due("pivot(" + x + ", " + y + ")", arm.pivot(x, y), model.pivot(x, y));
    }

    private void changeSetting() {
        int[] least = {0, 0, 10, 10, 1};
        int[] most = {2, 50, 1000, 1000, 1000};
        int what = random.nextInt(5);
        int value = number(least[what], most[what]);
        int told = random.nextInt(40) == 0 ? number(-1, 5) : what;
        due("set(" + told + ", " + value + ")", arm.set(told, value), model.set(told, value));
    }

    private void addPoint() {
        int most = wildness == SMALL ? 60 : 1000;
        int drawing = random.nextInt(4) == 0 ? drawingNumber() : latestOriginal();
        for (int i = random.nextInt(5); i >= 0 && made < CALLS; i--) {
            int x = number(0, most);
            int y = number(0, most);
            int joined = random.nextInt(50) == 0 ? 2 : random.nextInt(4) == 0 ? 0 : 1;
            due("point(" + drawing + ", " + x + ", " + y + ", " + joined + ")",
                arm.point(drawing, x, y, joined), model.point(drawing, x, y, joined));
        }
    }

    private int latestOriginal() {
        for (int i = model.count(0) - 1; i >= 0; i--) {
            if (model.drawing(i, 3) == 0) {
                return i;
            }
        }
        return 0;
    }

    private void makeCopy() {
        int drawing = drawingNumber();
        if (random.nextBoolean()) {
            due("why(" + drawing + ")", arm.why(drawing), model.why(drawing));
        }
        int copy = model.copy(drawing);
        due("copy(" + drawing + ")", arm.copy(drawing), copy);
        if (copy >= 0 && random.nextInt(3) == 0) {
            lookAtPlace(copy, random.nextInt(model.drawing(copy, 0)));
        }
    }

    private void makeDistantCopies() {
        due("draw()", arm.draw(), model.draw());
        addPoint();
        for (int i = 0; i < FAR.length; i++) {
            int kind = random.nextInt(3);
            int[] pair = FAR[i];
            due("set(0, " + kind + ")", arm.set(0, kind), model.set(0, kind));
            changePivot();
            due("arm(" + pair[0] + ", " + pair[1] + ")", arm.arm(pair[0], pair[1]), model.arm(pair[0], pair[1]));
            due("copy(" + i + ")", arm.copy(i), model.copy(i));
            lookAtPlace(i + 1, 0);
        }
    }

    private void lookAtPlace(int drawing, int point) {
        for (int what = 0; what < 4 && made < CALLS - 1; what++) {
            String told = "(" + drawing + ", " + point + ", " + what + ")";
            due("pointInfo" + told, arm.pointInfo(drawing, point, what), model.pointInfo(drawing, point, what));
            due("atOnce" + told, arm.atOnce(drawing, point, what), model.atOnce(drawing, point, what));
        }
    }

    private void takeAway() {
        for (int i = random.nextInt(3); i >= 0 && made < CALLS; i--) {
            int drawing = drawingNumber();
            due("remove(" + drawing + ")", arm.remove(drawing), model.remove(drawing));
        }
    }

    private void look() {
        int drawing = drawingNumber();
        int other = drawingNumber();
        int point = number(0, Math.max(model.drawing(drawing, 0) - 1, 0));
        int what = number(0, 11);
        switch (random.nextInt(8)) {
            case 0:
                int counted = number(0, 17);
                due("count(" + counted + ")", arm.count(counted), model.count(counted));
                break;
            case 1:
                due("drawing(" + drawing + ", " + what + ")", arm.drawing(drawing, what), model.drawing(drawing, what));
                break;
            case 2:
                due("ratio(" + drawing + ", " + what % 3 + ")",
                    arm.ratio(drawing, what % 3), model.ratio(drawing, what % 3));
                break;
            case 3: case 4:
                due("pointInfo(" + drawing + ", " + point + ", " + what % 8 + ")",
                    arm.pointInfo(drawing, point, what % 8), model.pointInfo(drawing, point, what % 8));
                break;
            case 5:
                due("atOnce(" + drawing + ", " + point + ", " + what % 5 + ")",
                    arm.atOnce(drawing, point, what % 5), model.atOnce(drawing, point, what % 5));
                break;
            case 6:
                due("alike(" + drawing + ", " + other + ")", arm.alike(drawing, other), model.alike(drawing, other));
                break;
            default:
                due("armFor(" + drawing + ", " + other + ")", arm.armFor(drawing, other), model.armFor(drawing, other));
                break;
        }
    }

    private void typeSome() {
        int kind = random.nextInt(10);
        if (kind == 0) {
            due("clearText()", arm.clearText(), model.clearText());
        } else if (kind == 1) {
            due("read()", arm.read(), model.read());
        } else if (kind == 2) {
            int what = number(0, 1);
            due("fault(" + what + ")", arm.fault(what), model.fault(what));
        } else if (kind == 3) {
            type(number(32, 126));
        } else if (kind == 4) {
            typeWhole();
        } else if (kind == 5 && random.nextInt(8) == 0) {
            typeManyPoints();
        }
    }

    private void type(int character) {
        if (made < CALLS) {
            due("type(" + character + ")", arm.type(character), model.type(character));
        }
    }

    private void lookAtText() {
        due("fault(0)", arm.fault(0), model.fault(0));
        due("fault(1)", arm.fault(1), model.fault(1));
        due("read()", arm.read(), model.read());
    }

    private void typeWhole() {
        due("clearText()", arm.clearText(), model.clearText());
        String signs = "0123456789,- .x";
        for (int i = random.nextInt(4); i >= 0; i--) {
            String point = random.nextInt(1100) + "," + random.nextInt(1050) + (random.nextBoolean() ? "-" : " ");
            for (int k = 0; k < point.length(); k++) {
                boolean last = i == 0 && k == point.length() - 1;
                boolean wrong = random.nextInt(40) == 0;
                type(wrong ? signs.charAt(random.nextInt(signs.length())) : last ? '.' : point.charAt(k));
            }
        }
        lookAtText();
    }

    private void typeManyPoints() {
        due("clearText()", arm.clearText(), model.clearText());
        int points = 19 + random.nextInt(3);
        for (int i = 0; i < points; i++) {
            String point = random.nextInt(10) + "," + random.nextInt(10);
            for (int k = 0; k < point.length(); k++) {
                type(point.charAt(k));
            }
            type(i == points - 1 ? random.nextInt(3) == 0 ? '9' : '.' : random.nextBoolean() ? '-' : ' ');
        }
        lookAtText();
    }
}
