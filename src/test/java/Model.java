import java.math.BigInteger;
import java.util.Arrays;

/** The document once more, in BigIntegers, for arguments that are in range. */
final class Model {
    final BigInteger[] numbers = new BigInteger[Desk.NUMBERS];
    final Curve.Spot[] points = new Curve.Spot[Desk.POINTS];

    Model() {
        Arrays.fill(numbers, Curve.ZERO);
        Arrays.fill(points, Curve.NONE);
    }

    /** What a desk shows: some 130 of its 512 calls. */
    static Model of(Desk desk) {
        Model model = new Model();
        for (int r = 0; r < Desk.NUMBERS; r++) {
            model.numbers[r] = desk.number(r);
        }
        for (int p = 0; p < Desk.POINTS; p++) {
            model.points[p] = desk.point(p);
        }
        return model;
    }

    void set(int r, int part, long value) {
        for (int bit = 0; bit < 64; bit++) {
            int at = 64 * part + bit;
            numbers[r] = (value >>> bit & 1) != 0 ? numbers[r].setBit(at) : numbers[r].clearBit(at);
        }
    }

    long get(int r, int part) {
        return numbers[r].shiftRight(64 * part).longValue();
    }

    boolean work(int what, int r, int a, int b) {
        BigInteger due = Promise05WorkTest.due(what, numbers[a], numbers[b]);
        if (due == null) {
            return false;
        }
        numbers[r] = due;
        return true;
    }

    boolean lay(int p, int x, int y) {
        if (!Curve.holds(numbers[x], numbers[y])) {
            return false;
        }
        points[p] = new Curve.Spot(numbers[x], numbers[y]);
        return true;
    }

    boolean lift(int p, int x, boolean odd) {
        Curve.Spot due = Curve.lifted(numbers[x], odd);
        if (due.equals(Curve.NONE)) {
            return false;
        }
        points[p] = due;
        return true;
    }

    boolean show(int p, int x, int y) {
        if (points[p].equals(Curve.NONE)) {
            return false;
        }
        numbers[x] = points[p].x();
        numbers[y] = points[p].y();
        return true;
    }

    boolean sign(int r, int s, int secret, int once, int digest) {
        BigInteger[] due = Promise14SignTest.due(numbers[secret], numbers[once], numbers[digest]);
        if (due == null) {
            return false;
        }
        numbers[r] = due[0];
        numbers[s] = due[1];
        return true;
    }

    boolean verify(int p, int digest, int r, int s) {
        return Promise15VerifyTest.due(points[p], numbers[digest], numbers[r], numbers[s]);
    }

    /** In the form of Desk.state(). */
    String state() {
        StringBuilder text = new StringBuilder();
        for (BigInteger number : numbers) {
            text.append(number.toString(16)).append(' ');
        }
        for (Curve.Spot point : points) {
            text.append(point).append(' ');
        }
        return text.toString();
    }
}
