import java.math.BigInteger;

/** Promise 8: lay puts the point of x and y, if the curve has it. */
public final class Promise08LayTest {
    public static void main(String[] args) {
        laysPoints();
        outermostPoints();
        BigInteger x = Curve.G.x();
        BigInteger y = Curve.G.y();
        denied("x and y one above", x, y.add(Curve.ONE));
        denied("x and y one below", x, y.subtract(Curve.ONE));
        denied("x one above and y", x.add(Curve.ONE), y);
        denied("x one below and y", x.subtract(Curve.ONE), y);
        denied("y and x changed about", y, x);
        denied("0 and 0", Curve.ZERO, Curve.ZERO);
        denied("P and P", Curve.P, Curve.P);
        denied("the highest of NUMBERS for both", Curve.TOP, Curve.TOP);
        coordinatesFromPOn();
        oneNumberForBoth();
        wrongIndices();
        Checks.end();
    }

    private static void laysPoints() {
        for (int n = 1; n < 40; n++) {
            Curve.Spot spot = Curve.multiple(Curve.big(n), Curve.G);
            laid(n % Desk.POINTS, spot);
            laid(n % Desk.POINTS, Curve.minus(spot));
        }
    }

    private static void laid(int p, Curve.Spot spot) {
        Desk desk = new Desk();
        desk.put(5, spot.x());
        desk.put(3, spot.y());
        Checks.due("lay of " + spot, desk.bench.lay(p, 5, 3), true);
        Checks.due("the POINT that was laid", desk.point(p), spot);
        Checks.due("x behind lay", desk.number(5), spot.x());
        Checks.due("y behind lay", desk.number(3), spot.y());
    }

    /** The lowest and the highest x and y of all points, and what lies beside them. */
    private static void outermostPoints() {
        Curve.Spot lowX = Curve.lifted(Curve.ONE, true);
        laid(0, lowX);
        denied("0 and the y of 1", Curve.ZERO, lowX.y());
        Curve.Spot highX = Curve.lifted(Curve.P.subtract(Curve.big(3)), true);
        laid(1, highX);
        for (int beyond = -2; beyond < 2; beyond++) {
            denied("P + " + beyond, Curve.P.add(Curve.big(beyond)), highX.y());
        }
        Curve.Spot lowY = Values.withY(Curve.ONE);
        laid(2, lowY);
        laid(3, Curve.minus(lowY));
        BigInteger[] wrongs = {Curve.ZERO, Curve.TWO, Curve.P.subtract(Curve.TWO), Curve.P,
            Curve.P.add(Curve.ONE), Curve.TOP};
        for (BigInteger wrong : wrongs) {
            denied("the x of 1 and " + wrong.toString(16), lowY.x(), wrong);
        }
    }

    private static void denied(String name, BigInteger x, BigInteger y) {
        Desk desk = Desk.filled();
        desk.put(5, x);
        desk.put(3, y);
        desk.denies("lay of " + name, bench -> bench.lay(0, 5, 3));
    }

    /** Modulo P these are points, but a point's x and y are below P. */
    private static void coordinatesFromPOn() {
        for (int small = 0; small < 30; small++) {
            Curve.Spot spot = Curve.lifted(Curve.big(small), false);
            if (!spot.equals(Curve.NONE)) {
                denied("x + P and y", spot.x().add(Curve.P), spot.y());
            }
        }
        Curve.Spot top = Curve.lifted(Curve.TOP.subtract(Curve.P), true);
        denied("x + P, the highest of NUMBERS, and y", Curve.TOP, top.y());
        Curve.Spot low = Values.withY(Curve.ONE);
        denied("x and y + P", low.x(), low.y().add(Curve.P));
    }

    private static void oneNumberForBoth() {
        Desk desk = Desk.filled();
        desk.denies("lay of one NUMBER for both", bench -> bench.lay(0, 2, 2));
    }

    private static void wrongIndices() {
        for (int p : Desk.NOT_FOUR) {
            Desk.refuses("lay(" + p + ", 0, 1)", bench -> bench.lay(p, 0, 1));
        }
        for (int r : Desk.NOT_NUMBERS) {
            Desk.refuses("lay(0, " + r + ", 1)", bench -> bench.lay(0, r, 1));
            Desk.refuses("lay(0, 1, " + r + ")", bench -> bench.lay(0, 1, r));
        }
    }
}
