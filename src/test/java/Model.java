import java.math.BigInteger;
import java.util.ArrayList;
import java.util.List;
import java.util.regex.Matcher;
import java.util.regex.Pattern;

/**
 * The document once more, in another way: fractions of any size, states that are never changed but
 * copied whole, the text by a regular expression. PantographArm has to answer as it does.
 */
final class Model {
    private static final int INVALID = -2000000001;
    private static final int IMPOSSIBLE = -2000000002;
    private static final int LIMIT = -2000000003;
    private static final int MISSING = -2000000004;
    private static final int[] LEAST = {0, 0, 10, 10, 1};
    private static final int[] MOST = {2, 50, 1000, 1000, 1000};
    private static final BigInteger FINE = BigInteger.valueOf(100000);
    private static final Pattern POINTS =
        Pattern.compile("[0-9]{1,4},[0-9]{1,4}(?:[- ][0-9]{1,4},[0-9]{1,4})*\\.");

    private static final class Point {
        Fraction x;
        Fraction y;
        boolean joined;
        boolean drawn;
        int width;
        int length;
    }

    private static final class Picture {
        Picture parent;
        List<Point> points = new ArrayList<>();
        Fraction ratio = Fraction.ONE;
        int[] sign = {1, 1};
        Fraction[] shift = {Fraction.ZERO, Fraction.ZERO};
    }

    private static final class State {
        int[] arm = {1, 1};
        int[] pivot = {0, 0};
        int[] settings = {0, 0, 1000, 1000, 100};
        int wear;
        int sharpened;
        int lines;
        int length;
        int leftOut;
        List<Picture> pictures = new ArrayList<>();

        State next() {
            State next = new State();
            next.arm = arm.clone();
            next.pivot = pivot.clone();
            next.settings = settings.clone();
            next.wear = wear;
            next.sharpened = sharpened;
            next.lines = lines;
            next.length = length;
            next.leftOut = leftOut;
            next.pictures = new ArrayList<>(pictures);
            return next;
        }
    }

    private State now = new State();
    private final List<State> history = new ArrayList<>();
    private String text = "";

    /** Makes the present state the latest one of the history; what is changed then is a new one. */
    private State change() {
        history.add(now);
        if (history.size() > 4) {
            history.remove(0);
        }
        now = now.next();
        return now;
    }

    private boolean has(int picture) {
        return picture >= 0 && picture < now.pictures.size();
    }

    private boolean has(int picture, int point) {
        return has(picture) && point >= 0 && point < now.pictures.get(picture).points.size();
    }

    private static boolean isBetween(int number, int least, int most) {
        return least <= number && number <= most;
    }

    // ---- arm and board

    int arm(int a, int b) {
        if (!isBetween(a, 1, 20) || !isBetween(b, 1, 20)) {
            return INVALID;
        }
        int[] before = now.arm;
        change().arm = new int[] {a, b};
        return 100 * before[0] + before[1];
    }

    int pivot(int x, int y) {
        if (!isBetween(x, 0, 1000) || !isBetween(y, 0, 1000)) {
            return INVALID;
        }
        int[] before = now.pivot;
        change().pivot = new int[] {x, y};
        return 10000 * before[0] + before[1];
    }

    int set(int what, int value) {
        if (!isBetween(what, 0, 4) || !isBetween(value, LEAST[what], MOST[what])) {
            return INVALID;
        }
        int before = now.settings[what];
        change().settings[what] = value;
        return before;
    }

    int count(int what) {
        int[] counts = {now.pictures.size(), now.arm[0], now.arm[1], now.pivot[0], now.pivot[1],
            now.settings[0], now.settings[1], now.settings[2], now.settings[3], now.settings[4],
            now.wear, isBlunt() ? 1 : 0, 10 - now.sharpened, now.lines, now.length, now.leftOut,
            history.size(), text.length()};
        return isBetween(what, 0, 17) ? counts[what] : INVALID;
    }

    private boolean isBlunt() {
        return 1 + now.wear / now.settings[4] > 9;
    }

    int sharpen() {
        if (now.sharpened == 10) {
            return LIMIT;
        }
        int before = now.wear;
        State next = change();
        next.sharpened++;
        next.wear = 0;
        return before;
    }

    // ---- drawings

    int draw() {
        if (now.pictures.size() == 6) {
            return LIMIT;
        }
        change().pictures.add(new Picture());
        return now.pictures.size() - 1;
    }

    private boolean isCopied(int picture) {
        for (Picture other : now.pictures) {
            if (other.parent == now.pictures.get(picture)) {
                return true;
            }
        }
        return false;
    }

    int point(int picture, int x, int y, int joined) {
        if (!has(picture) || !isBetween(x, 0, 1000) || !isBetween(y, 0, 1000) || !isBetween(joined, 0, 1)) {
            return INVALID;
        }
        Picture before = now.pictures.get(picture);
        if (before.parent != null || isCopied(picture)) {
            return IMPOSSIBLE;
        }
        if (before.points.size() == 20) {
            return LIMIT;
        }
        Picture after = new Picture();
        after.points.addAll(before.points);
        after.points.add(pointOfOriginal(after, x, y, joined == 1));
        change().pictures.set(picture, after);
        return before.points.size();
    }

    private static Point pointOfOriginal(Picture picture, int x, int y, boolean joined) {
        Point point = new Point();
        point.x = Fraction.of(x, 1);
        point.y = Fraction.of(y, 1);
        point.joined = joined && !picture.points.isEmpty();
        if (point.joined) {
            point.drawn = true;
            point.width = 1;
            point.length = lengthBetween(picture.points.get(picture.points.size() - 1), point);
        }
        return point;
    }

    private static int lengthBetween(Point one, Point other) {
        return one.x.minus(other.x).absolute().plus(one.y.minus(other.y).absolute()).roundedDown();
    }

    int remove(int picture) {
        if (!has(picture)) {
            return INVALID;
        }
        if (isCopied(picture)) {
            return IMPOSSIBLE;
        }
        change().pictures.remove(picture);
        return now.pictures.size();
    }

    int copy(int picture) {
        int why = why(picture);
        if (why != 0) {
            return why == INVALID ? INVALID : IMPOSSIBLE;
        }
        Picture copy = traced(now.pictures.get(picture));
        State next = change();
        for (int i = 1; i < copy.points.size(); i++) {
            if (copy.points.get(i).joined) {
                drawLine(next, copy.points.get(i - 1), copy.points.get(i));
            }
        }
        next.pictures.add(copy);
        return next.pictures.size() - 1;
    }

    private static void drawLine(State state, Point from, Point to) {
        if (!isOnBoard(state, from) || !isOnBoard(state, to)) {
            state.leftOut++;
            return;
        }
        to.drawn = true;
        to.width = Math.min(9, 1 + state.wear / state.settings[4]);
        to.length = lengthBetween(from, to);
        state.wear += to.length;
        state.lines++;
        state.length += to.length;
    }

    private static boolean isOnBoard(State state, Point point) {
        return isFrom0To(state.settings[2], point.x) && isFrom0To(state.settings[3], point.y);
    }

    private static boolean isFrom0To(int most, Fraction place) {
        return place.compareTo(Fraction.ZERO) >= 0 && place.compareTo(Fraction.of(most, 1)) <= 0;
    }

    private Fraction signedRatio(int axis) {
        int[][] signs = {{1, 1}, {-1, -1}, {-1, 1}};
        return Fraction.of(signs[now.settings[0]][axis] * now.arm[0], now.arm[1]);
    }

    private Fraction aim(int axis, Fraction place) {
        Fraction pivot = Fraction.of(now.pivot[axis], 1);
        return pivot.plus(signedRatio(axis).times(place.minus(pivot)));
    }

    private Fraction pencil(Fraction at, Fraction aim) {
        Fraction play = Fraction.of(now.settings[1], 1);
        if (aim.compareTo(at.plus(play)) > 0) {
            return aim.minus(play);
        }
        return aim.compareTo(at.minus(play)) < 0 ? aim.plus(play) : at;
    }

    private Picture traced(Picture from) {
        Picture copy = new Picture();
        copy.parent = from;
        copy.ratio = from.ratio.times(Fraction.of(now.arm[0], now.arm[1]));
        for (int axis = 0; axis < 2; axis++) {
            Fraction pivot = Fraction.of(now.pivot[axis], 1);
            Fraction signed = signedRatio(axis);
            copy.sign[axis] = from.sign[axis] * signed.numerator.signum();
            copy.shift[axis] = pivot.minus(signed.times(pivot)).plus(signed.times(from.shift[axis]));
        }
        Point last = null;
        for (Point traced : from.points) {
            Point point = new Point();
            point.x = aim(0, traced.x);
            point.y = aim(1, traced.y);
            point.joined = traced.joined;
            if (traced.joined) {
                point.x = pencil(last.x, point.x);
                point.y = pencil(last.y, point.y);
            }
            copy.points.add(point);
            last = point;
        }
        return copy;
    }

    int why(int picture) {
        if (!has(picture)) {
            return INVALID;
        }
        Picture from = now.pictures.get(picture);
        if (from.points.isEmpty()) {
            return 1;
        }
        if (isBlunt()) {
            return 2;
        }
        if (now.pictures.size() == 6) {
            return 3;
        }
        Picture copy = traced(from);
        boolean fits = isFine(copy.ratio.numerator) && isFine(copy.ratio.denominator);
        for (Point point : copy.points) {
            fits = fits && isFine(point.x.denominator) && isFine(point.y.denominator);
        }
        return fits ? 0 : 4;
    }

    private static boolean isFine(BigInteger number) {
        return number.compareTo(FINE) <= 0;
    }

    private static Picture originalOf(Picture picture) {
        return picture.parent == null ? picture : originalOf(picture.parent);
    }

    private static int stepsOf(Picture picture) {
        return picture.parent == null ? 0 : 1 + stepsOf(picture.parent);
    }

    int drawing(int picture, int what) {
        if (!has(picture) || !isBetween(what, 0, 11)) {
            return INVALID;
        }
        Picture asked = now.pictures.get(picture);
        float ratio = asked.ratio.numerator.floatValue() / asked.ratio.denominator.floatValue();
        int drawn = 0;
        int length = 0;
        int width = 0;
        int off = 0;
        for (Point point : asked.points) {
            drawn += point.drawn ? 1 : 0;
            length += point.length;
            width = Math.max(width, point.width);
            off += isOnBoard(now, point) ? 0 : 1;
        }
        int parent = asked.parent == null ? MISSING : now.pictures.indexOf(asked.parent);
        int[] answers = {asked.points.size(), parent, now.pictures.indexOf(originalOf(asked)), stepsOf(asked),
            asked.sign[0], asked.sign[1], drawn, length, width, off,
            Float.floatToIntBits(ratio), (int) (ratio * (float) 10)};
        return answers[what];
    }

    private static long part(Fraction fraction, int part) {
        return (part == 0 ? fraction.numerator : fraction.denominator).longValueExact();
    }

    int ratio(int picture, int part) {
        return has(picture) && isBetween(part, 0, 1) ? (int) part(now.pictures.get(picture).ratio, part) : INVALID;
    }

    long pointInfo(int picture, int point, int what) {
        if (!has(picture, point) || !isBetween(what, 0, 6)) {
            return INVALID;
        }
        Point asked = now.pictures.get(picture).points.get(point);
        if (what < 4) {
            return part(what < 2 ? asked.x : asked.y, what % 2);
        }
        int[] answers = {asked.joined ? 1 : 0, asked.width, asked.length};
        return answers[what - 4];
    }

    long atOnce(int picture, int point, int what) {
        if (!has(picture, point) || !isBetween(what, 0, 3)) {
            return INVALID;
        }
        Picture asked = now.pictures.get(picture);
        Point first = originalOf(asked).points.get(point);
        int axis = what / 2;
        Fraction place = axis == 0 ? first.x : first.y;
        Fraction signed = asked.ratio.times(Fraction.of(asked.sign[axis], 1));
        return part(signed.times(place).plus(asked.shift[axis]), what % 2);
    }

    int alike(int one, int other) {
        if (!has(one) || !has(other)) {
            return INVALID;
        }
        List<Point> first = now.pictures.get(one).points;
        List<Point> second = now.pictures.get(other).points;
        int alike = 0;
        for (int i = 0; i < Math.min(first.size(), second.size()); i++) {
            alike += first.get(i).x.compareTo(second.get(i).x) == 0
                && first.get(i).y.compareTo(second.get(i).y) == 0 ? 1 : 0;
        }
        return alike;
    }

    int armFor(int one, int other) {
        if (!has(one) || !has(other)) {
            return INVALID;
        }
        Fraction wanted = now.pictures.get(one).ratio.by(now.pictures.get(other).ratio);
        for (int a = 1; a <= 20; a++) {
            for (int b = 1; b <= 20; b++) {
                if (wanted.compareTo(Fraction.of(a, b)) == 0) {
                    return 100 * a + b;
                }
            }
        }
        return MISSING;
    }

    int undo() {
        if (history.isEmpty()) {
            return IMPOSSIBLE;
        }
        now = history.remove(history.size() - 1);
        return history.size();
    }

    // ---- texts

    int type(int character) {
        if (!isBetween(character, 32, 126)) {
            return INVALID;
        }
        if (text.length() == 100) {
            return LIMIT;
        }
        text += (char) character;
        return text.length();
    }

    int clearText() {
        int before = text.length();
        text = "";
        return before;
    }

    /** Position and reason of the fault, or null: what is seen after the fewest characters counts. */
    private int[] findFault() {
        int numbers = 0;
        for (int read = 0; read <= text.length(); read++) {
            String part = text.substring(0, read);
            Matcher matcher = POINTS.matcher(part);
            if (!matcher.matches() && !matcher.hitEnd()) {
                return new int[] {read - 1, 1};
            }
            if (read > 0 && Character.isDigit(part.charAt(read - 1))) {
                boolean begins = read == 1 || !Character.isDigit(part.charAt(read - 2));
                numbers += begins ? 1 : 0;
                if (begins && numbers == 41) {
                    return new int[] {read - 1, 4};
                }
                if (part.matches("(?s)(.*[^0-9])?[0-9]{4}") && Integer.parseInt(part.substring(read - 4)) > 1000) {
                    return new int[] {read - 4, 3};
                }
            }
        }
        return POINTS.matcher(text).matches() ? null : new int[] {text.length(), 2};
    }

    int fault(int what) {
        if (!isBetween(what, 0, 1)) {
            return INVALID;
        }
        int[] fault = findFault();
        return fault == null ? MISSING : fault[what];
    }

    int read() {
        if (findFault() != null) {
            return IMPOSSIBLE;
        }
        if (now.pictures.size() == 6) {
            return LIMIT;
        }
        Picture picture = new Picture();
        boolean joined = false;
        Matcher matcher = Pattern.compile("([0-9]+),([0-9]+)([- .])").matcher(text);
        while (matcher.find()) {
            int x = Integer.parseInt(matcher.group(1));
            int y = Integer.parseInt(matcher.group(2));
            picture.points.add(pointOfOriginal(picture, x, y, joined));
            joined = matcher.group(3).equals("-");
        }
        change().pictures.add(picture);
        return now.pictures.size() - 1;
    }
}
