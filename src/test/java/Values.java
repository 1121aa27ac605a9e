import java.math.BigInteger;
import java.util.Random;

/** NUMBERS that are likely to show a fault. */
final class Values {
    private Values() {
    }

    static BigInteger[] edges() {
        BigInteger one = Curve.ONE;
        BigInteger half = Curve.N.shiftRight(1);
        return new BigInteger[] {
            Curve.ZERO, one, Curve.TWO, Curve.big(3), Curve.big(7),
            Curve.P.subtract(one), Curve.P, Curve.P.add(one),
            Curve.N.subtract(one), Curve.N, Curve.N.add(one), Curve.N.add(Curve.TWO),
            half, half.add(one), Curve.P.subtract(Curve.N),
            Curve.TOP, Curve.TOP.subtract(one),
            one.shiftLeft(255), one.shiftLeft(255).subtract(one),
            one.shiftLeft(63), one.shiftLeft(64), one.shiftLeft(64).subtract(one),
            one.shiftLeft(128), one.shiftLeft(192).subtract(one),
            one.shiftLeft(26), one.shiftLeft(26).subtract(one), one.shiftLeft(234),
            Curve.G.x(), Curve.G.y(),
        };
    }

    /** Points whose x or y is as low or as high as can be, or next to N; and G, and NONE. */
    static Curve.Spot[] edgePoints() {
        Curve.Spot lowX = Curve.lifted(Curve.ONE, false);
        Curve.Spot highX = Curve.lifted(Curve.P.subtract(Curve.big(3)), true);
        Curve.Spot lowY = withY(Curve.ONE);
        return new Curve.Spot[] {
            lowX, Curve.minus(lowX), highX, Curve.minus(highX), lowY, Curve.minus(lowY),
            Curve.lifted(Curve.N, false), Curve.lifted(Curve.N.add(Curve.TWO), true),
            Curve.lifted(Curve.N.subtract(Curve.TWO), true), Curve.G, Curve.NONE,
        };
    }

    /** NONE if the curve has no point with this y. As P is 7 modulo 9, the power is a root. */
    static Curve.Spot withY(BigInteger y) {
        BigInteger cube = y.multiply(y).subtract(Curve.big(7)).mod(Curve.P);
        BigInteger x = cube.modPow(Curve.P.add(Curve.TWO).divide(Curve.big(9)), Curve.P);
        return Curve.holds(x, y) ? new Curve.Spot(x, y) : Curve.NONE;
    }

    /** An edge, a number of any length, runs of equal bits, or any number at all. */
    static BigInteger any(Random random) {
        BigInteger[] edges = edges();
        switch (random.nextInt(4)) {
            case 0:
                return edges[random.nextInt(edges.length)];
            case 1:
                return new BigInteger(1 + random.nextInt(256), random);
            case 2:
                return runsOfBits(random);
            default:
                return new BigInteger(256, random);
        }
    }

    private static BigInteger runsOfBits(Random random) {
        BigInteger value = Curve.ZERO;
        int bit = 0;
        boolean on = random.nextBoolean();
        while (bit < 256) {
            int end = Math.min(256, bit + 1 + random.nextInt(60));
            for (; bit < end; bit++) {
                value = on ? value.setBit(bit) : value;
            }
            on = !on;
        }
        return value;
    }
}
