import java.math.BigInteger;

/** Promise 8: lay puts the point of x and y, if the curve has it. */
public final class Promise08LayTest {
    public static void main(String[] args) {
        laysPoints();
        BigInteger x = Curve.G.x();
        BigInteger y = Curve.G.y();
        denied("x and y one off", x, y.add(Curve.ONE));
        denied("x one off and y", x.add(Curve.ONE), y);
        denied("y and x changed about", y, x);
        denied("0 and 0", Curve.ZERO, Curve.ZERO);
        denied("P and P", Curve.P, Curve.P);
        coordinatesFromPOn();
        oneNumberForBoth();
        wrongIndices();
        Checks.end();
    }

    private static void laysPoints() {
        for (int n = 1; n < 40; n++) {
            Curve.Spot spot = Curve.multiple(Curve.big(n), Curve.G);
            for (Curve.Spot each : new Curve.Spot[] {spot, Curve.minus(spot)}) {
                Desk desk = new Desk();
                desk.put(5, each.x());
                desk.put(3, each.y());
                Checks.due("lay of " + n + " G", desk.bench.lay(n % Desk.POINTS, 5, 3), true);
                Checks.due("the POINT that was laid", desk.point(n % Desk.POINTS), each);
                Checks.due("x behind lay", desk.number(5), each.x());
                Checks.due("y behind lay", desk.number(3), each.y());
            }
        }
    }

    private static void denied(String name, BigInteger x, BigInteger y) {
        Desk desk = Desk.filled();
        desk.put(5, x);
        desk.put(3, y);
        desk.denies("lay of " + name, bench -> bench.lay(0, 5, 3));
    }

    /** Modulo P these are points, but a point's x and y are below P. */
    private static void coordinatesFromPOn() {
        for (int small = 0; small < 30; small++) {
            Curve.Spot spot = Curve.lifted(Curve.big(small), false);
            if (!spot.equals(Curve.NONE)) {
                denied("x + P and y", spot.x().add(Curve.P), spot.y());
            }
        }
        Curve.Spot low = pointWithLowY();
        denied("x and y + P", low.x(), low.y().add(Curve.P));
        Desk desk = new Desk();
        desk.putPoint(1, low);
        Checks.due("POINT with a low y", desk.point(1), low);
    }

    /** y y - 7 is a cube for a third of all y; as P is 7 modulo 9, this power is a cube root. */
    private static Curve.Spot pointWithLowY() {
        BigInteger power = Curve.P.add(Curve.TWO).divide(Curve.big(9));
        for (int y = 1; y < 1000; y++) {
            BigInteger cube = Curve.big((long) y * y - 7).mod(Curve.P);
            BigInteger x = cube.modPow(power, Curve.P);
            if (Curve.holds(x, Curve.big(y))) {
                return new Curve.Spot(x, Curve.big(y));
            }
        }
        throw new IllegalStateException("no point with a low y");
    }

    private static void oneNumberForBoth() {
        Desk desk = Desk.filled();
        desk.denies("lay of one NUMBER for both", bench -> bench.lay(0, 2, 2));
    }

    private static void wrongIndices() {
        for (int p : Desk.NOT_FOUR) {
            Desk.refuses("lay(" + p + ", 0, 1)", bench -> bench.lay(p, 0, 1));
        }
        for (int r : Desk.NOT_NUMBERS) {
            Desk.refuses("lay(0, " + r + ", 1)", bench -> bench.lay(0, r, 1));
            Desk.refuses("lay(0, 1, " + r + ")", bench -> bench.lay(0, 1, r));
        }
    }
}
