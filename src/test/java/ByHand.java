/** What the tests by hand have in common: the checker, and how drawings and texts are made and told. */
abstract class ByHand {
    /** Out of every range; some would be in one if their upper bits were lost. */
    static final int[] OUT = {Integer.MIN_VALUE, -2000000001, -65536, -1, 65536, 1 << 24, Integer.MAX_VALUE};
    static final Checker CHECK = new Checker();

    static void due(String what, long got, long want) {
        CHECK.due(what, got, want);
    }

    // ---- drawings

    /** An original with these points, each x, y, joined. */
    static int original(PantographArm x, int... points) {
        int number = x.draw();
        for (int i = 0; i < points.length; i += 3) {
            due("point " + i / 3, x.point(number, points[i], points[i + 1], points[i + 2]), i / 3);
        }
        return number;
    }

    /** A new arm with an original of these points. */
    static PantographArm with(int... points) {
        PantographArm x = new PantographArm();
        original(x, points);
        return x;
    }

    /** Copies the latest drawing with arms of these a and b by turns, each copy that of the one before. */
    static void chain(PantographArm x, int... arms) {
        for (int i = 0; i < arms.length; i += 2) {
            x.arm(arms[i], arms[i + 1]);
            int latest = x.count(0) - 1;
            due("copy of " + latest, x.copy(latest), latest + 1);
        }
    }

    // ---- texts

    static void typeAll(PantographArm x, String text) {
        for (int i = 0; i < text.length(); i++) {
            x.type(text.charAt(i));
        }
    }

    static PantographArm withText(String text) {
        PantographArm x = new PantographArm();
        typeAll(x, text);
        return x;
    }

    static void fault(String text, int position, int reason) {
        PantographArm x = withText(text);
        due("position of the fault of '" + text + "'", x.fault(0), position);
        due("reason of the fault of '" + text + "'", x.fault(1), reason);
        due("read of '" + text + "'", x.read(), Checker.IMPOSSIBLE);
        due("drawings after '" + text + "'", x.count(0), 0);
        due("history after '" + text + "'", x.count(16), 0);
    }

    static void noFault(String text, int points) {
        PantographArm x = withText(text);
        due("position of '" + text + "'", x.fault(0), Checker.MISSING);
        due("reason of '" + text + "'", x.fault(1), Checker.MISSING);
        due("read of '" + text + "'", x.read(), 0);
        due("points of '" + text + "'", x.drawing(0, 0), points);
    }

    /** A text of this many points without the "." behind them, every second one joined. */
    static String manyPoints(int points) {
        StringBuilder many = new StringBuilder("1,1");
        for (int i = 1; i < points; i++) {
            many.append(i % 2 == 0 ? '-' : ' ').append("1,1");
        }
        return many.toString();
    }

    // ---- what is told

    static long[] place(PantographArm x, int drawing, int point) {
        return new long[] {x.pointInfo(drawing, point, 0), x.pointInfo(drawing, point, 1),
            x.pointInfo(drawing, point, 2), x.pointInfo(drawing, point, 3)};
    }

    static long[] placeAtOnce(PantographArm x, int drawing, int point) {
        return new long[] {x.atOnce(drawing, point, 0), x.atOnce(drawing, point, 1),
            x.atOnce(drawing, point, 2), x.atOnce(drawing, point, 3)};
    }

    static long[] counts(PantographArm x) {
        long[] counts = new long[18];
        for (int i = 0; i < counts.length; i++) {
            counts[i] = x.count(i);
        }
        return counts;
    }

    static long[] properties(PantographArm x, int drawing) {
        long[] properties = new long[12];
        for (int i = 0; i < properties.length; i++) {
            properties[i] = x.drawing(drawing, i);
        }
        return properties;
    }

    /** The same of every point of a drawing. */
    static long[] ofPoints(PantographArm x, int drawing, int what) {
        long[] told = new long[Math.max(x.drawing(drawing, 0), 0)];
        for (int i = 0; i < told.length; i++) {
            told[i] = x.pointInfo(drawing, i, what);
        }
        return told;
    }
}
