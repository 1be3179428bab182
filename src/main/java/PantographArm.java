/**
 * A pantograph that copies drawings. What it does is promised in ../shared/DOC.md, by number;
 * the numbers stand at the methods below.
 */
public final class PantographArm {
    public static final int INVALID_ARGUMENT = -2000000001;
    public static final int NOT_POSSIBLE = -2000000002;
    public static final int LIMIT_REACHED = -2000000003;
    public static final int NOT_FOUND = -2000000004;

    private static final int MOST_DRAWINGS = 6;
    private static final int MOST_POINTS = 20;
    private static final int MOST_STATES = 4;
    private static final int MOST_CHARACTERS = 100;
    private static final int MOST_DIGITS = 4;
    private static final int MOST_PLACE = 1000;
    private static final int MOST_OF_ARM = 20;
    private static final int MOST_WIDTH = 9;
    private static final int MOST_SHARPENINGS = 10;
    private static final int MOST_OF_FRACTION = 100000;

    /** What set() sets, with the least, the most and the first value of each. */
    private static final int KIND = 0;
    private static final int PLAY = 1;
    private static final int BOARD_WIDTH = 2;
    private static final int BOARD_HEIGHT = 3;
    private static final int SOFT = 4;
    private static final int[] LEAST_SETTING = {0, 0, 10, 10, 1};
    private static final int[] MOST_SETTING = {2, 50, 1000, 1000, 1000};
    private static final int[] FIRST_SETTING = {0, 0, 1000, 1000, 100};

    private static final int STRAIGHT = 0;
    private static final int TURNED = 1;

    private static final int NUMERATOR = 0;
    private static final int DENOMINATOR = 1;

    /** What stands in the place of a number of a drawing, if there is none. */
    private static final int NONE = -1;

    /** The line from the point before: none, left out, or else its width. */
    private static final int NOT_JOINED = -1;
    private static final int LEFT_OUT = 0;
    private static final int WIDTH_OF_ORIGINALS = 1;

    /** Why a drawing cannot be copied. */
    private static final int NO_POINTS = 1;
    private static final int BLUNT = 2;
    private static final int TOO_MANY_DRAWINGS = 3;
    private static final int TOO_FINE = 4;

    /** What is wrong with a text. */
    private static final int NO_FAULT = 0;
    private static final int WRONG_CHARACTER = 1;
    private static final int TOO_SHORT = 2;
    private static final int NUMBER_TOO_GREAT = 3;
    private static final int TOO_MANY_POINTS = 4;

    private Desk now = new Desk();
    private final Desk[] past = new Desk[MOST_STATES];
    private int states = 0;
    private final PointText text = new PointText();

    /** Promise 1. The states of the history are made here once and used again and again. */
    public PantographArm() {
        for (int i = 0; i < past.length; i++) {
            past[i] = new Desk();
        }
    }

    // ---- arm and board

    /** Promise 2. */
    public int arm(int a, int b) {
        if (!isWithin(a, 1, MOST_OF_ARM) || !isWithin(b, 1, MOST_OF_ARM)) {
            return INVALID_ARGUMENT;
        }
        int previous = 100 * now.a + now.b;
        remember();
        now.a = a;
        now.b = b;
        return previous;
    }

    /** Promise 3. */
    public int pivot(int x, int y) {
        if (!isWithin(x, 0, MOST_PLACE) || !isWithin(y, 0, MOST_PLACE)) {
            return INVALID_ARGUMENT;
        }
        int previous = 10000 * now.pivotX + now.pivotY;
        remember();
        now.pivotX = x;
        now.pivotY = y;
        return previous;
    }

    /** Promise 4. */
    public int set(int what, int value) {
        if (what < 0 || what >= LEAST_SETTING.length || what >= MOST_SETTING.length
                || !isWithin(value, LEAST_SETTING[what], MOST_SETTING[what])) {
            return INVALID_ARGUMENT;
        }
        int previous = now.setting(what);
        remember();
        now.changeSetting(what, value);
        return previous;
    }

    /** Promise 5. */
    public int count(int what) {
        switch (what) {
            case 0: return now.size;
            case 1: return now.a;
            case 2: return now.b;
            case 3: return now.pivotX;
            case 4: return now.pivotY;
            case 5: return now.setting(KIND);
            case 6: return now.setting(PLAY);
            case 7: return now.setting(BOARD_WIDTH);
            case 8: return now.setting(BOARD_HEIGHT);
            case 9: return now.setting(SOFT);
            case 10: return now.wear;
            case 11: return now.isBlunt() ? 1 : 0;
            case 12: return now.sharpenings;
            case 13: return now.drawnLines;
            case 14: return now.drawnLength;
            case 15: return now.leftOut;
            case 16: return states;
            case 17: return text.length;
            default: return INVALID_ARGUMENT;
        }
    }

    /** Promise 6. */
    public int sharpen() {
        if (now.sharpenings < 1) {
            return LIMIT_REACHED;
        }
        int previous = now.wear;
        remember();
        now.sharpenings--;
        now.wear = 0;
        return previous;
    }

    // ---- drawings

    /** Promise 7. */
    public int draw() {
        if (now.spare() == null) {
            return LIMIT_REACHED;
        }
        remember();
        return now.beginOriginal();
    }

    /** Promise 8. */
    public int point(int drawing, int x, int y, int joined) {
        Drawing original = now.find(drawing);
        if (original == null || !isWithin(x, 0, MOST_PLACE) || !isWithin(y, 0, MOST_PLACE)
                || !isWithin(joined, 0, 1)) {
            return INVALID_ARGUMENT;
        }
        if (original.isCopy() || now.hasCopies(drawing)) {
            return NOT_POSSIBLE;
        }
        if (original.isFull()) {
            return LIMIT_REACHED;
        }
        remember();
        original.add(x, y, joined == 1 ? WIDTH_OF_ORIGINALS : NOT_JOINED);
        return original.size - 1;
    }

    /** Promise 9. */
    public int remove(int drawing) {
        if (now.find(drawing) == null) {
            return INVALID_ARGUMENT;
        }
        if (now.hasCopies(drawing)) {
            return NOT_POSSIBLE;
        }
        remember();
        now.takeAway(drawing);
        return now.size;
    }

    /** Promise 10. */
    public int copy(int drawing) {
        Drawing traced = now.find(drawing);
        if (traced == null) {
            return INVALID_ARGUMENT;
        }
        if (now.reasonAgainst(drawing, traced) != 0) {
            return NOT_POSSIBLE;
        }
        remember();
        return now.keepTraced();
    }

    /** Promise 11. */
    public int why(int drawing) {
        Drawing traced = now.find(drawing);
        return traced == null ? INVALID_ARGUMENT : now.reasonAgainst(drawing, traced);
    }

    /** Promise 12. */
    public int drawing(int drawing, int what) {
        Drawing asked = now.find(drawing);
        if (asked == null) {
            return INVALID_ARGUMENT;
        }
        switch (what) {
            case 0: return asked.size;
            case 1: return asked.isCopy() ? asked.parent : NOT_FOUND;
            case 2: return now.originalOf(drawing);
            case 3: return now.stepsOf(drawing);
            case 4: return asked.signX;
            case 5: return asked.signY;
            case 6: return asked.drawnLines();
            case 7: return asked.drawnLength();
            case 8: return asked.greatestWidth();
            case 9: return now.pointsOffBoard(asked);
            case 10: return floatBits(asked.ratioAsFloat());
            case 11: return (int) (asked.ratioAsFloat() * (float) 10);
            default: return INVALID_ARGUMENT;
        }
    }

    /** Promise 13. */
    public int ratio(int drawing, int part) {
        Drawing asked = now.find(drawing);
        if (asked == null || !isWithin(part, NUMERATOR, DENOMINATOR)) {
            return INVALID_ARGUMENT;
        }
        return (int) lowest(asked.scale, asked.parts, part);
    }

    /** Promise 14. */
    public long pointInfo(int drawing, int point, int what) {
        Drawing asked = now.find(drawing);
        if (asked == null || !asked.has(point)) {
            return INVALID_ARGUMENT;
        }
        switch (what) {
            case 0: return lowest(asked.x(point), asked.parts, NUMERATOR);
            case 1: return lowest(asked.x(point), asked.parts, DENOMINATOR);
            case 2: return lowest(asked.y(point), asked.parts, NUMERATOR);
            case 3: return lowest(asked.y(point), asked.parts, DENOMINATOR);
            case 4: return asked.isJoined(point) ? 1 : 0;
            case 5: return asked.width(point);
            case 6: return asked.width(point) > 0 ? asked.lineLength(point) : 0;
            default: return INVALID_ARGUMENT;
        }
    }

    /** Promise 15. */
    public long atOnce(int drawing, int point, int what) {
        Drawing asked = now.find(drawing);
        Drawing original = now.find(now.originalOf(drawing));
        if (asked == null || original == null || !asked.has(point)) {
            return INVALID_ARGUMENT;
        }
        switch (what) {
            case 0: return lowest(asked.xAtOnce(original.x(point)), asked.parts, NUMERATOR);
            case 1: return lowest(asked.xAtOnce(original.x(point)), asked.parts, DENOMINATOR);
            case 2: return lowest(asked.yAtOnce(original.y(point)), asked.parts, NUMERATOR);
            case 3: return lowest(asked.yAtOnce(original.y(point)), asked.parts, DENOMINATOR);
            default: return INVALID_ARGUMENT;
        }
    }

    /** Promise 16. */
    public int alike(int one, int other) {
        Drawing first = now.find(one);
        Drawing second = now.find(other);
        if (first == null || second == null) {
            return INVALID_ARGUMENT;
        }
        int alike = 0;
        for (int i = 0; i < first.size && i < second.size; i++) {
            if (first.x(i) * second.parts == second.x(i) * first.parts
                    && first.y(i) * second.parts == second.y(i) * first.parts) {
                alike++;
            }
        }
        return alike;
    }

    /** Promise 17. The lowest terms of the quotient are the least a and b. */
    public int armFor(int one, int other) {
        Drawing first = now.find(one);
        Drawing second = now.find(other);
        if (first == null || second == null) {
            return INVALID_ARGUMENT;
        }
        long numerator = first.scale * second.parts;
        long denominator = first.parts * second.scale;
        long a = lowest(numerator, denominator, NUMERATOR);
        long b = lowest(numerator, denominator, DENOMINATOR);
        return a > MOST_OF_ARM || b > MOST_OF_ARM ? NOT_FOUND : (int) (100 * a + b);
    }

    /** Promise 18. The state that is left takes the place of the restored one, to be used again. */
    public int undo() {
        int latest = states - 1;
        if (latest < 0 || latest >= past.length || past[latest] == null) {
            return NOT_POSSIBLE;
        }
        Desk restored = past[latest];
        past[latest] = now;
        now = restored;
        states = latest;
        return states;
    }

    // ---- texts

    /** Promise 19. */
    public int type(int character) {
        if (!isWithin(character, 32, 126)) {
            return INVALID_ARGUMENT;
        }
        return text.append((char) character) ? text.length : LIMIT_REACHED;
    }

    /** Promise 20. */
    public int clearText() {
        int previous = text.length;
        text.length = 0;
        return previous;
    }

    /** Promise 21. */
    public int fault(int what) {
        if (!isWithin(what, 0, 1)) {
            return INVALID_ARGUMENT;
        }
        if (text.parse() == NO_FAULT) {
            return NOT_FOUND;
        }
        return what == 0 ? text.faultAt : text.reason;
    }

    /** Promise 22. */
    public int read() {
        if (text.parse() != NO_FAULT) {
            return NOT_POSSIBLE;
        }
        Drawing original = now.spare();
        if (original == null) {
            return LIMIT_REACHED;
        }
        remember();
        int number = now.beginOriginal();
        text.addPointsTo(original);
        return number;
    }

    // ---- history

    /** Records the present state; called ahead of every change, when no error is left to return. */
    private void remember() {
        if (states >= past.length) {
            dropOldest();
        }
        if (states >= 0 && states < past.length && past[states] != null) {
            past[states].takeFrom(now);
            states++;
        }
    }

    private void dropOldest() {
        if (past.length < 1) {
            return;
        }
        Desk oldest = past[0];
        for (int i = 1; i < past.length; i++) {
            past[i - 1] = past[i];
        }
        past[past.length - 1] = oldest;
        states = past.length - 1;
    }

    // ---- numbers

    private static boolean isWithin(int number, int least, int most) {
        return number >= least && number <= most;
    }

    /** Both at least 0. Numbers of 63 bits need fewer than 100 steps. */
    private static long greatestDivisor(long one, long other) {
        long divided = one;
        long divisor = other;
        for (int step = 0; step < 100 && divisor > 0; step++) {
            long rest = divided % divisor;
            divided = divisor;
            divisor = rest;
        }
        return divided;
    }

    /** A part of a fraction in lowest terms; the denominator is above 0. */
    private static long lowest(long numerator, long denominator, int part) {
        long told = part == NUMERATOR ? numerator : denominator;
        long divisor = greatestDivisor(Math.abs(numerator), denominator);
        return divisor > 1 ? told / divisor : told;
    }

    /** Rounded down, for numbers of at least 0; no state has a divisor below 1. */
    private static long quotient(long divided, long divisor) {
        return divisor > 0 ? divided / divisor : 0;
    }

    /**
     * The bits of a float from 1 / 2^60 to 2^60, as Float.floatToIntBits gives them.
     * To double and to halve such a float is exact, so that its 24 digits stay what they are.
     */
    private static int floatBits(float value) {
        float digits = value;
        int exponent = 0;
        for (int i = 0; i < 60 && digits >= 2f; i++) {
            digits = digits / 2f;
            exponent++;
        }
        for (int i = 0; i < 60 && digits < 1f; i++) {
            digits = digits * 2f;
            exponent--;
        }
        return ((exponent + 127) << 23) + (int) ((digits - 1f) * 8388608f);
    }

    /**
     * Everything that the history records: the arm, the board, the pencil and the drawings.
     * The rows behind the last drawing are room to trace in; nothing is told of them.
     */
    private static final class Desk {
        private int a = 1;
        private int b = 1;
        private int pivotX = 0;
        private int pivotY = 0;
        private final int[] settings = new int[FIRST_SETTING.length];
        private int wear = 0;
        private int sharpenings = MOST_SHARPENINGS;
        private int drawnLines = 0;
        private int drawnLength = 0;
        private int leftOut = 0;
        private final Drawing[] drawings = new Drawing[MOST_DRAWINGS];
        private int size = 0;

        Desk() {
            for (int i = 0; i < settings.length && i < FIRST_SETTING.length; i++) {
                settings[i] = FIRST_SETTING[i];
            }
            for (int i = 0; i < drawings.length; i++) {
                drawings[i] = new Drawing();
            }
        }

        void takeFrom(Desk other) {
            a = other.a;
            b = other.b;
            pivotX = other.pivotX;
            pivotY = other.pivotY;
            for (int i = 0; i < settings.length; i++) {
                settings[i] = other.setting(i);
            }
            wear = other.wear;
            sharpenings = other.sharpenings;
            drawnLines = other.drawnLines;
            drawnLength = other.drawnLength;
            leftOut = other.leftOut;
            size = other.size;
            for (int i = 0; i < size; i++) {
                Drawing mine = find(i);
                Drawing taken = other.find(i);
                if (mine != null && taken != null) {
                    mine.takeFrom(taken);
                }
            }
        }

        int setting(int what) {
            return what >= 0 && what < settings.length ? settings[what] : 0;
        }

        void changeSetting(int what, int value) {
            if (what >= 0 && what < settings.length) {
                settings[what] = value;
            }
        }

        int signX() {
            return setting(KIND) == STRAIGHT ? 1 : -1;
        }

        int signY() {
            return setting(KIND) == TURNED ? -1 : 1;
        }

        // -- the drawings

        /** The drawing with this number, or null. */
        Drawing find(int number) {
            return number >= 0 && number < size && number < drawings.length ? drawings[number] : null;
        }

        /** The rows of the next drawing, or null if there are as many as there can be. */
        Drawing spare() {
            return size >= 0 && size < drawings.length ? drawings[size] : null;
        }

        int beginOriginal() {
            Drawing original = spare();
            if (original == null) {
                return NONE;
            }
            original.begin(NONE, 1, 1);
            size++;
            return size - 1;
        }

        boolean hasCopies(int number) {
            for (int i = 0; i < size; i++) {
                Drawing other = find(i);
                if (other != null && other.parent == number) {
                    return true;
                }
            }
            return false;
        }

        /** Only for a drawing without copies. Its rows go behind the last drawing, to be used again. */
        void takeAway(int number) {
            Drawing removed = find(number);
            for (int i = number; i >= 0 && i + 1 < size && i + 1 < drawings.length; i++) {
                drawings[i] = drawings[i + 1];
            }
            int last = size - 1;
            if (removed == null || last < 0 || last >= drawings.length) {
                return;
            }
            drawings[last] = removed;
            size = last;
            for (int i = 0; i < size; i++) {
                Drawing left = find(i);
                if (left != null && left.parent > number) {
                    left.parent--;
                }
            }
        }

        int originalOf(int number) {
            int at = number;
            for (int step = 0; step < MOST_DRAWINGS; step++) {
                Drawing passed = find(at);
                if (passed == null || !passed.isCopy()) {
                    return at;
                }
                at = passed.parent;
            }
            return at;
        }

        int stepsOf(int number) {
            int at = number;
            for (int step = 0; step < MOST_DRAWINGS; step++) {
                Drawing passed = find(at);
                if (passed == null || !passed.isCopy()) {
                    return step;
                }
                at = passed.parent;
            }
            return MOST_DRAWINGS;
        }

        // -- the board and the pencil

        boolean isOnBoard(Drawing drawing, int point) {
            long x = drawing.x(point);
            long y = drawing.y(point);
            return x >= 0 && x <= setting(BOARD_WIDTH) * drawing.parts
                    && y >= 0 && y <= setting(BOARD_HEIGHT) * drawing.parts;
        }

        int pointsOffBoard(Drawing drawing) {
            int points = 0;
            for (int i = 0; i < drawing.size; i++) {
                if (!isOnBoard(drawing, i)) {
                    points++;
                }
            }
            return points;
        }

        /** The width that the wear makes, also above the greatest one that is drawn. */
        int wornWidth() {
            return 1 + (int) quotient(wear, setting(SOFT));
        }

        boolean isBlunt() {
            return wornWidth() > MOST_WIDTH;
        }

        /** Draws or leaves out the line to a point from the one before it, if they are joined. */
        void drawLine(Drawing drawing, int point) {
            if (!drawing.isJoined(point)) {
                return;
            }
            if (!isOnBoard(drawing, point - 1) || !isOnBoard(drawing, point)) {
                leftOut++;
                return;
            }
            int length = drawing.lineLength(point);
            drawing.changeLine(point, Math.min(wornWidth(), MOST_WIDTH));
            wear += length;
            drawnLines++;
            drawnLength += length;
        }

        // -- copying

        /** The first reason for which a drawing cannot be copied, or 0; if it can, it is traced then. */
        int reasonAgainst(int number, Drawing drawing) {
            if (drawing.size < 1) {
                return NO_POINTS;
            }
            if (isBlunt()) {
                return BLUNT;
            }
            Drawing traced = spare();
            if (traced == null) {
                return TOO_MANY_DRAWINGS;
            }
            trace(number, drawing, traced);
            return traced.isTooFine() ? TOO_FINE : 0;
        }

        /**
         * Fills the rows of a copy, without drawing its lines. The copy has b times the parts of what
         * is traced, so that every number here is whole; with 5 steps all stay far below 2^60.
         */
        void trace(int number, Drawing from, Drawing to) {
            to.begin(number, from.scale * a, from.parts * b);
            to.signX = from.signX * signX();
            to.signY = from.signY * signY();
            // The shift of a copy is by its definition the aim of the shift that was copied.
            to.shiftX = aim(from.shiftX, from.parts, pivotX, signX());
            to.shiftY = aim(from.shiftY, from.parts, pivotY, signY());
            long play = setting(PLAY) * to.parts;
            for (int i = 0; i < from.size; i++) {
                long x = aim(from.x(i), from.parts, pivotX, signX());
                long y = aim(from.y(i), from.parts, pivotY, signY());
                if (from.isJoined(i)) {
                    x = follow(to.x(i - 1), x, play);
                    y = follow(to.y(i - 1), y, play);
                }
                to.add(x, y, from.isJoined(i) ? LEFT_OUT : NOT_JOINED);
            }
        }

        /** The aim in the parts of the copy of a place in the parts of what is traced. */
        long aim(long place, long parts, int pivot, int sign) {
            return pivot * parts * b + sign * a * (place - pivot * parts);
        }

        /** Where the pencil comes to from a place, with play, if this is its aim. */
        static long follow(long place, long aim, long play) {
            if (aim > place + play) {
                return aim - play;
            }
            if (aim < place - play) {
                return aim + play;
            }
            return place;
        }

        /** Makes the copy that was traced last a drawing, and draws its lines. */
        int keepTraced() {
            Drawing traced = spare();
            if (traced == null) {
                return NONE;
            }
            for (int i = 0; i < traced.size; i++) {
                drawLine(traced, i);
            }
            size++;
            return size - 1;
        }
    }

    /**
     * An original or a copy. Its places and shifts are told in parts: a place x stands here as
     * x * parts, and its ratio is scale / parts. For an original parts is 1, for a copy it is the
     * product of the b of all arms of its chain, and scale that of the a.
     */
    private static final class Drawing {
        private int parent = NONE;
        private long scale = 1;
        private long parts = 1;
        private int signX = 1;
        private int signY = 1;
        private long shiftX = 0;
        private long shiftY = 0;
        private int size = 0;
        private final long[] xs = new long[MOST_POINTS];
        private final long[] ys = new long[MOST_POINTS];
        private final int[] lines = new int[MOST_POINTS];

        Drawing() {
        }

        void begin(int newParent, long newScale, long newParts) {
            parent = newParent;
            scale = newScale;
            parts = newParts;
            signX = 1;
            signY = 1;
            shiftX = 0;
            shiftY = 0;
            size = 0;
        }

        void takeFrom(Drawing other) {
            begin(other.parent, other.scale, other.parts);
            signX = other.signX;
            signY = other.signY;
            shiftX = other.shiftX;
            shiftY = other.shiftY;
            for (int i = 0; i < other.size; i++) {
                add(other.x(i), other.y(i), other.line(i));
            }
        }

        boolean isCopy() {
            return parent != NONE;
        }

        boolean isFull() {
            return size >= MOST_POINTS;
        }

        /** The first point is joined to none, whatever line is told. */
        void add(long x, long y, int line) {
            if (size >= 0 && size < xs.length && size < ys.length && size < lines.length) {
                xs[size] = x;
                ys[size] = y;
                lines[size] = size == 0 ? NOT_JOINED : line;
                size++;
            }
        }

        boolean has(int point) {
            return point >= 0 && point < size;
        }

        long x(int point) {
            return has(point) && point < xs.length ? xs[point] : 0;
        }

        long y(int point) {
            return has(point) && point < ys.length ? ys[point] : 0;
        }

        int line(int point) {
            return has(point) && point < lines.length ? lines[point] : NOT_JOINED;
        }

        void changeLine(int point, int line) {
            if (has(point) && point < lines.length) {
                lines[point] = line;
            }
        }

        boolean isJoined(int point) {
            return line(point) != NOT_JOINED;
        }

        /** The width of the line to a point, 0 if none was drawn. */
        int width(int point) {
            return Math.max(line(point), 0);
        }

        /** The length that the line to a point has or would have. */
        int lineLength(int point) {
            long across = Math.abs(x(point) - x(point - 1));
            long up = Math.abs(y(point) - y(point - 1));
            return (int) quotient(across + up, parts);
        }

        int drawnLines() {
            int drawn = 0;
            for (int i = 0; i < size; i++) {
                if (width(i) > 0) {
                    drawn++;
                }
            }
            return drawn;
        }

        int drawnLength() {
            int length = 0;
            for (int i = 0; i < size; i++) {
                if (width(i) > 0) {
                    length += lineLength(i);
                }
            }
            return length;
        }

        int greatestWidth() {
            int greatest = 0;
            for (int i = 0; i < size; i++) {
                greatest = Math.max(greatest, width(i));
            }
            return greatest;
        }

        float ratioAsFloat() {
            long numerator = lowest(scale, parts, NUMERATOR);
            long denominator = lowest(scale, parts, DENOMINATOR);
            return denominator > 0 ? (float) numerator / (float) denominator : 1f;
        }

        long xAtOnce(long xOfOriginal) {
            return scale * signX * xOfOriginal + shiftX;
        }

        long yAtOnce(long yOfOriginal) {
            return scale * signY * yOfOriginal + shiftY;
        }

        /** Whether a fraction of it is beyond what a copy may have. */
        boolean isTooFine() {
            if (lowest(scale, parts, NUMERATOR) > MOST_OF_FRACTION
                    || lowest(scale, parts, DENOMINATOR) > MOST_OF_FRACTION) {
                return true;
            }
            for (int i = 0; i < size; i++) {
                if (lowest(x(i), parts, DENOMINATOR) > MOST_OF_FRACTION
                        || lowest(y(i), parts, DENOMINATOR) > MOST_OF_FRACTION) {
                    return true;
                }
            }
            return false;
        }
    }

    /** The text, with the points or the fault that parse() finds in it. */
    private static final class PointText {
        private final char[] characters = new char[MOST_CHARACTERS];
        private int length = 0;
        private int at = 0;
        private int faultAt = 0;
        private int reason = NO_FAULT;
        private final int[] xs = new int[MOST_POINTS];
        private final int[] ys = new int[MOST_POINTS];
        private final boolean[] joined = new boolean[MOST_POINTS];
        private int size = 0;

        PointText() {
        }

        boolean append(char character) {
            if (length < 0 || length >= characters.length) {
                return false;
            }
            characters[length] = character;
            length++;
            return true;
        }

        /** Looks at the whole text anew; returns the reason of its fault, or NO_FAULT. */
        int parse() {
            at = 0;
            size = 0;
            reason = NO_FAULT;
            boolean isJoined = false;
            boolean hasMore = true;
            // One round more than there can be points, to find the first digit of one too many.
            for (int i = 0; i <= MOST_POINTS && hasMore; i++) {
                parsePoint(isJoined);
                isJoined = here() == '-';
                hasMore = reason == NO_FAULT && (accept('-') || accept(' '));
            }
            expect('.');
            if (reason == NO_FAULT && at < length) {
                failHere();
            }
            return reason;
        }

        private void parsePoint(boolean isJoined) {
            if (size >= MOST_POINTS && isDigit(here())) {
                fail(at, TOO_MANY_POINTS);
            }
            int x = parseNumber();
            expect(',');
            int y = parseNumber();
            if (reason == NO_FAULT && size >= 0
                    && size < xs.length && size < ys.length && size < joined.length) {
                xs[size] = x;
                ys[size] = y;
                joined[size] = isJoined;
                size++;
            }
        }

        private int parseNumber() {
            int first = at;
            int number = 0;
            for (int i = 0; i < MOST_DIGITS && isDigit(here()); i++) {
                number = number * 10 + here() - '0';
                at++;
            }
            if (at == first) {
                failHere();
            } else if (number > MOST_PLACE) {
                fail(first, NUMBER_TOO_GREAT);
            }
            return number;
        }

        /** The character that is looked at, (char) 0 behind the last one. */
        private char here() {
            return at >= 0 && at < length && at < characters.length ? characters[at] : (char) 0;
        }

        private static boolean isDigit(char character) {
            return character >= '0' && character <= '9';
        }

        private boolean accept(char character) {
            if (here() != character) {
                return false;
            }
            at++;
            return true;
        }

        private void expect(char character) {
            if (reason == NO_FAULT && !accept(character)) {
                failHere();
            }
        }

        private void failHere() {
            fail(at, at < length ? WRONG_CHARACTER : TOO_SHORT);
        }

        /** The first fault stays; what is looked at behind it does not count. */
        private void fail(int position, int newReason) {
            if (reason == NO_FAULT) {
                faultAt = position;
                reason = newReason;
            }
        }

        void addPointsTo(Drawing original) {
            for (int i = 0; i < size && i < xs.length && i < ys.length && i < joined.length; i++) {
                original.add(xs[i], ys[i], joined[i] ? WIDTH_OF_ORIGINALS : NOT_JOINED);
            }
        }
    }
}
