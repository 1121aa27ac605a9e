import java.math.BigInteger;
import java.util.Random;

/** Promise 12: times puts a NUMBER times a POINT. */
public final class Promise12TimesTest {
    public static void main(String[] args) {
        Curve.Spot other = Curve.multiple(Curve.hex("ABCDEF0123456789"), Curve.G);
        for (int n = 0; n < 40; n++) {
            multiplies(Curve.big(n), Curve.G);
            multiplies(Curve.N.add(Curve.big(n - 20)), other);
        }
        for (BigInteger n : Values.edges()) {
            multiplies(n, Curve.G);
            multiplies(n, Curve.minus(Curve.G));
            multiplies(n, other);
            multiplies(n, Curve.NONE);
        }
        Random random = new Random(12);
        for (int i = 0; i < 60; i++) {
            multiplies(Values.any(random), Curve.multiple(Values.any(random), Curve.G));
        }
        for (Curve.Spot spot : Values.edgePoints()) {
            aroundN(spot);
        }
        namedAnswers();
        for (Curve.Spot spot : Values.edgePoints()) {
            isTheSumOfSoMany(spot);
        }
        resultMayBeTheSource();
        wrongIndices();
        Checks.end();
    }

    private static void multiplies(BigInteger n, Curve.Spot a) {
        Desk desk = new Desk();
        desk.put(6, n);
        desk.putPoint(1, a);
        desk.bench.base(2);
        desk.bench.times(2, 6, 1);
        Checks.due(n.toString(16) + " times " + a, desk.point(2), Curve.multiple(n, a));
        Checks.due("the NUMBER behind times", desk.number(6), n);
        Checks.due("the POINT behind times", desk.point(1), a);
    }

    /** "any, also N or above": N times whatever POINT is NONE, and then it begins again. */
    private static void aroundN(Curve.Spot a) {
        Curve.Spot twice = Curve.sum(a, a);
        times(Curve.ZERO, a, Curve.NONE);
        times(Curve.ONE, a, a);
        times(Curve.TWO, a, twice);
        times(Curve.N.subtract(Curve.TWO), a, Curve.minus(twice));
        times(Curve.N.subtract(Curve.ONE), a, Curve.minus(a));
        times(Curve.N, a, Curve.NONE);
        times(Curve.N.add(Curve.ONE), a, a);
        times(Curve.N.add(Curve.TWO), a, twice);
        times(Curve.TOP, a, Curve.multiple(Curve.TOP.subtract(Curve.N), a));
    }

    private static void times(BigInteger n, Curve.Spot a, Curve.Spot due) {
        Desk desk = new Desk();
        desk.put(0, n);
        desk.putPoint(0, a);
        desk.bench.base(3);
        desk.bench.times(3, 0, 0);
        Checks.due(n.toString(16) + " times " + a, desk.point(3), due);
    }

    /** What the document says of N, and two multiples that are known from elsewhere. */
    private static void namedAnswers() {
        multipleOfG(Curve.N, Curve.NONE);
        multipleOfG(Curve.N.subtract(Curve.ONE), Curve.minus(Curve.G));
        multipleOfG(Curve.TWO, new Curve.Spot(
                Curve.hex("C6047F9441ED7D6D3045406E95C07CD85C778E4B8CEF3CA7ABAC09B95C709EE5"),
                Curve.hex("1AE168FEA63DC339A3C58419466CEAEEF7F632653266D0E1236431A950CFE52A")));
        multipleOfG(Curve.big(3), new Curve.Spot(
                Curve.hex("F9308A019258C31049344F85F89D5229B531C845836F99B08601F113BCE036F9"),
                Curve.hex("388F7B0F632DE8140FE337E62A37F3566500A99934C2231B6CB9FD7584B8E672")));
    }

    private static void multipleOfG(BigInteger n, Curve.Spot due) {
        Desk desk = new Desk();
        desk.put(0, n);
        desk.bench.base(0);
        desk.bench.times(0, 0, 0);
        Checks.due(n.toString(16) + " times G", desk.point(0), due);
    }

    /** "n times a POINT is the sum of n of it": as the object itself adds them. */
    private static void isTheSumOfSoMany(Curve.Spot a) {
        Desk desk = new Desk();
        desk.putPoint(0, a);
        for (int n = 0; n < 70; n++) {
            desk.bench.set(7, 0, n);
            desk.bench.times(2, 7, 0);
            Checks.due(n + " times " + a + " is the sum of so many", desk.bench.same(2, 1), true);
            desk.bench.add(1, 1, 0);
        }
    }

    private static void resultMayBeTheSource() {
        Desk desk = Desk.filled();
        Curve.Spot due = Curve.multiple(desk.number(3), desk.point(1));
        desk.bench.times(1, 3, 1);
        Checks.due("times(1, 3, 1)", desk.point(1), due);
        Checks.due("POINT 0 behind times(1, 3, 1)", desk.point(0),
                Curve.multiple(Curve.big(5), Curve.G));
    }

    private static void wrongIndices() {
        for (int p : Desk.NOT_FOUR) {
            Desk.refuses("times(" + p + ", 0, 1)", bench -> bench.times(p, 0, 1));
            Desk.refuses("times(0, 0, " + p + ")", bench -> bench.times(0, 0, p));
        }
        for (int r : Desk.NOT_NUMBERS) {
            Desk.refuses("times(0, " + r + ", 1)", bench -> bench.times(0, r, 1));
        }
    }
}
