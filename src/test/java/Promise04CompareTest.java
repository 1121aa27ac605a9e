import java.math.BigInteger;

/** Promise 4: compare orders NUMBERS without sign, the highest PART first. */
public final class Promise04CompareTest {
    public static void main(String[] args) {
        BigInteger[] values = Values.edges();
        Desk desk = new Desk();
        for (int i = 0; i < values.length; i++) {
            desk = new Desk();
            desk.put(2, values[i]);
            for (BigInteger other : values) {
                desk.put(6, other);
                Checks.due("compare of " + values[i].toString(16) + " and " + other.toString(16),
                        desk.bench.compare(2, 6), values[i].compareTo(other));
            }
        }
        for (int r = 0; r < Desk.NUMBERS; r++) {
            Checks.due("compare of a NUMBER with itself", desk.bench.compare(r, r), 0);
        }
        neighbours();
        for (int r : Desk.NOT_NUMBERS) {
            Desk.refuses("compare(" + r + ", 0)", bench -> bench.compare(r, 0));
            Desk.refuses("compare(0, " + r + ")", bench -> bench.compare(0, r));
            Desk.refuses("compare(" + r + ", " + r + ")", bench -> bench.compare(r, r));
        }
        Checks.end();
    }

    /** NUMBERS have no sign, and a higher PART outweighs all lower ones. */
    private static void neighbours() {
        below(Curve.ZERO, Curve.ONE);
        below(Curve.ZERO, Curve.TOP);
        below(Curve.TOP.subtract(Curve.ONE), Curve.TOP);
        for (int bit : new int[] {1, 31, 32, 63, 64, 127, 128, 191, 192, 255}) {
            BigInteger edge = Curve.ONE.shiftLeft(bit);
            below(edge.subtract(Curve.ONE), edge);
            below(edge, edge.add(Curve.ONE));
            below(edge, Curve.TOP);
        }
        for (BigInteger edge : new BigInteger[] {Curve.N, Curve.P}) {
            below(edge.subtract(Curve.ONE), edge);
            below(edge, edge.add(Curve.ONE));
        }
    }

    private static void below(BigInteger low, BigInteger high) {
        Desk desk = new Desk();
        desk.put(0, low);
        desk.put(7, high);
        desk.put(3, high);
        String name = "compare of " + low.toString(16) + " and " + high.toString(16);
        Checks.due(name, desk.bench.compare(0, 7), -1);
        Checks.due(name + ", changed about", desk.bench.compare(7, 0), 1);
        Checks.due("compare of two " + high.toString(16), desk.bench.compare(3, 7), 0);
    }
}
