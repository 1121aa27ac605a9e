import java.math.BigInteger;

/** A PointBench whose NUMBERS and POINTS are told and read as BigIntegers. */
final class Desk {
    static final int NUMBERS = 8;
    static final int PARTS = 4;
    static final int POINTS = 4;
    /** A few indices that no index may be. */
    static final int[] NOT_NUMBERS = {-1, 8, 9, 100, Integer.MIN_VALUE, Integer.MAX_VALUE};
    static final int[] NOT_FOUR = {-1, 4, 5, 7, 100, Integer.MIN_VALUE, Integer.MAX_VALUE};

    final PointBench bench = new PointBench();

    void put(int r, BigInteger value) {
        for (int part = 0; part < PARTS; part++) {
            bench.set(r, part, value.shiftRight(64 * part).longValue());
        }
    }

    BigInteger number(int r) {
        BigInteger value = BigInteger.ZERO;
        for (int part = PARTS - 1; part >= 0; part--) {
            byte[] bytes = new byte[Long.BYTES];
            java.nio.ByteBuffer.wrap(bytes).putLong(bench.get(r, part));
            value = value.shiftLeft(64).or(new BigInteger(1, bytes));
        }
        return value;
    }

    /** By way of NUMBERS 0 and 1, which are put back. */
    void putPoint(int p, Curve.Spot spot) {
        if (spot.equals(Curve.NONE)) {
            bench.none(p);
            return;
        }
        BigInteger zero = number(0);
        BigInteger one = number(1);
        put(0, spot.x());
        put(1, spot.y());
        Checks.due("lay of a point that the test needs", bench.lay(p, 0, 1), true);
        put(0, zero);
        put(1, one);
    }

    /** By way of NUMBERS 0 and 1, which are put back. */
    Curve.Spot point(int p) {
        BigInteger zero = number(0);
        BigInteger one = number(1);
        Curve.Spot spot = Curve.NONE;
        if (bench.show(p, 0, 1)) {
            spot = new Curve.Spot(number(0), number(1));
        }
        put(0, zero);
        put(1, one);
        return spot;
    }

    /** All that can be seen of the object: some 130 of its 512 calls. */
    String state() {
        StringBuilder text = new StringBuilder();
        for (int r = 0; r < NUMBERS; r++) {
            text.append(number(r).toString(16)).append(' ');
        }
        for (int p = 0; p < POINTS; p++) {
            text.append(point(p)).append(' ');
        }
        return text.toString();
    }

    /** A desk on which no two NUMBERS or POINTS are alike, so that no change goes unseen. */
    static Desk filled() {
        Desk desk = new Desk();
        for (int r = 0; r < NUMBERS; r++) {
            desk.put(r, Curve.hex("1234567890ABCDEF0FEDCBA987654321").multiply(Curve.big(r + 3)));
        }
        for (int p = 0; p < POINTS - 1; p++) {
            desk.putPoint(p, Curve.multiple(Curve.big(p + 5), Curve.G));
        }
        return desk;
    }

    interface Act {
        void on(PointBench bench);
    }

    interface Question {
        boolean on(PointBench bench);
    }

    /** The call throws, and leaves all as it was. */
    static void refuses(String name, Act call) {
        Desk desk = filled();
        String before = desk.state();
        Checks.refused(name, () -> call.on(desk.bench));
        Checks.due("the state behind the refused " + name, desk.state(), before);
    }

    /** The call answers false, and leaves all as it was. */
    void denies(String name, Question call) {
        String before = state();
        Checks.due(name, call.on(bench), false);
        Checks.due("the state behind " + name, state(), before);
    }
}
