import java.math.BigInteger;

/** Promise 4: compare orders NUMBERS without sign, the highest PART first. */
public final class Promise04CompareTest {
    public static void main(String[] args) {
        BigInteger[] values = Values.edges();
        Desk desk = new Desk();
        for (int i = 0; i < values.length; i++) {
            desk = new Desk();
            desk.put(2, values[i]);
            for (BigInteger other : values) {
                desk.put(6, other);
                Checks.due("compare of " + values[i].toString(16) + " and " + other.toString(16),
                        desk.bench.compare(2, 6), values[i].compareTo(other));
            }
        }
        for (int r = 0; r < Desk.NUMBERS; r++) {
            Checks.due("compare of a NUMBER with itself", desk.bench.compare(r, r), 0);
        }
        for (int r : Desk.NOT_NUMBERS) {
            Desk.refuses("compare(" + r + ", 0)", bench -> bench.compare(r, 0));
            Desk.refuses("compare(0, " + r + ")", bench -> bench.compare(0, r));
            Desk.refuses("compare(" + r + ", " + r + ")", bench -> bench.compare(r, r));
        }
        Checks.end();
    }
}
