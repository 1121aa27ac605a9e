import java.math.BigInteger;

/** The curve as the document's Terms tell it, in BigIntegers: what the tests hold to be right. */
final class Curve {
    static final BigInteger ZERO = BigInteger.ZERO;
    static final BigInteger ONE = BigInteger.ONE;
    static final BigInteger TWO = BigInteger.TWO;
    static final BigInteger END = ONE.shiftLeft(256);
    /** The highest of all NUMBERS. */
    static final BigInteger TOP = END.subtract(ONE);
    static final BigInteger P =
            END.subtract(ONE.shiftLeft(32)).subtract(BigInteger.valueOf(977));
    static final BigInteger N =
            hex("FFFFFFFFFFFFFFFFFFFFFFFFFFFFFFFEBAAEDCE6AF48A03BBFD25E8CD0364141");
    static final Spot G = new Spot(
            hex("79BE667EF9DCBBAC55A06295CE870B07029BFCDB2DCE28D959F2815B16F81798"),
            hex("483ADA7726A3C4655DA4FBFC0E1108A8FD17B448A68554199C47D08FFB10D4B8"));
    static final Spot NONE = new Spot(null, null);

    private Curve() {
    }

    /** A point; NONE has null for x and y. */
    record Spot(BigInteger x, BigInteger y) {
    }

    static BigInteger hex(String digits) {
        return new BigInteger(digits, 16);
    }

    static BigInteger big(long value) {
        return BigInteger.valueOf(value);
    }

    static boolean holds(BigInteger x, BigInteger y) {
        return x.compareTo(P) < 0 && y.compareTo(P) < 0
                && y.multiply(y).mod(P).equals(squareOfY(x));
    }

    private static BigInteger squareOfY(BigInteger x) {
        return x.multiply(x).multiply(x).add(big(7)).mod(P);
    }

    /** NONE if the curve has no point with this x. */
    static Spot lifted(BigInteger x, boolean odd) {
        if (x.compareTo(P) >= 0) {
            return NONE;
        }
        BigInteger y = squareOfY(x).modPow(P.add(ONE).shiftRight(2), P);
        if (!holds(x, y)) {
            return NONE;
        }
        return new Spot(x, y.testBit(0) == odd ? y : P.subtract(y));
    }

    static Spot minus(Spot a) {
        return a.equals(NONE) ? NONE : new Spot(a.x(), a.y().negate().mod(P));
    }

    static Spot sum(Spot a, Spot b) {
        if (a.equals(NONE)) {
            return b;
        }
        if (b.equals(NONE)) {
            return a;
        }
        if (a.equals(minus(b))) {
            return NONE;
        }
        BigInteger over = a.equals(b)
                ? a.x().multiply(a.x()).multiply(big(3)) : b.y().subtract(a.y());
        BigInteger under = a.equals(b) ? a.y().multiply(TWO) : b.x().subtract(a.x());
        BigInteger m = over.multiply(under.modInverse(P)).mod(P);
        BigInteger x = m.multiply(m).subtract(a.x()).subtract(b.x()).mod(P);
        return new Spot(x, m.multiply(a.x().subtract(x)).subtract(a.y()).mod(P));
    }

    static Spot multiple(BigInteger n, Spot a) {
        Spot result = NONE;
        Spot power = a;
        for (int bit = 0; bit < n.bitLength(); bit++) {
            if (n.testBit(bit)) {
                result = sum(result, power);
            }
            power = sum(power, power);
        }
        return result;
    }
}
