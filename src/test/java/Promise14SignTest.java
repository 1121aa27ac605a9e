import java.math.BigInteger;
import java.util.Random;

/** Promise 14: sign puts r, the x of k G modulo N, and s, (h + r d) by k modulo N. */
public final class Promise14SignTest {
    public static void main(String[] args) {
        knownSignature();
        Random random = new Random(14);
        for (int i = 0; i < 60; i++) {
            signs(Values.any(random), Values.any(random), Values.any(random));
        }
        BigInteger ordinary = Curve.G.y();
        for (BigInteger edge : Values.edges()) {
            signs(edge, ordinary, ordinary);
            signs(ordinary, edge, ordinary);
            signs(ordinary, ordinary, edge);
        }
        sMayBeZero();
        everyPlace();
        lowestAndHighest();
        digestMayBeAny();
        for (BigInteger wrong : new BigInteger[] {Curve.ZERO, Curve.N, Curve.N.add(Curve.ONE),
            Curve.P, Curve.TOP}) {
            falseChangesNothing(wrong, Curve.ONE);
            falseChangesNothing(Curve.ONE, wrong);
            falseChangesNothing(wrong, wrong);
        }
        wrongIndices();
        Checks.end();
    }

    /** The widely published answer for "Satoshi Nakamoto", secret 1 and the k of RFC 6979. */
    private static void knownSignature() {
        Desk desk = new Desk();
        desk.put(0, Curve.ONE);
        desk.put(1, Curve.hex("8F8A276C19F4149656B280621E358CCE24F5F52542772691EE69063B74F15D15"));
        desk.put(2, Curve.hex("A0DC65FFCA799873CBEA0AC274015B9526505DAAAED385155425F7337704883E"));
        Checks.due("sign of a known digest", desk.bench.sign(3, 4, 0, 1, 2), true);
        Checks.due("r of a known signature", desk.number(3),
                Curve.hex("934B1EA10A4B3C1757E2B0C017D0B6143CE3C9A7E6A4A49860D7A6AB210EE3D8"));
        BigInteger lower =
                Curve.hex("2442CE9D2B916064108014783E923EC36B49743E2FFA1C4496F01A512AAFD9E5");
        BigInteger s = desk.number(4);
        // It was published with the lower of s and N - s.
        Checks.due("s of a known signature", s.min(Curve.N.subtract(s)), lower);
    }

    /** r and s; null where sign must answer false. */
    static BigInteger[] due(BigInteger d, BigInteger k, BigInteger h) {
        if (d.signum() == 0 || k.signum() == 0
                || d.compareTo(Curve.N) >= 0 || k.compareTo(Curve.N) >= 0) {
            return null;
        }
        BigInteger r = Curve.multiple(k, Curve.G).x().mod(Curve.N);
        BigInteger s = h.add(r.multiply(d)).multiply(k.modInverse(Curve.N)).mod(Curve.N);
        return new BigInteger[] {r, s};
    }

    private static void signs(BigInteger d, BigInteger k, BigInteger h) {
        Desk desk = new Desk();
        desk.put(2, d);
        desk.put(3, k);
        desk.put(4, h);
        desk.bench.base(1);
        BigInteger[] due = due(d, k, h);
        String name = "sign of " + d.toString(16) + ", " + k.toString(16) + ", " + h.toString(16);
        Checks.due(name, desk.bench.sign(0, 7, 2, 3, 4), due != null);
        Checks.due("r of " + name, desk.number(0), due == null ? Curve.ZERO : due[0]);
        Checks.due("s of " + name, desk.number(7), due == null ? Curve.ZERO : due[1]);
        Checks.due("d behind " + name, desk.number(2), d);
        Checks.due("k behind " + name, desk.number(3), k);
        Checks.due("h behind " + name, desk.number(4), h);
        Checks.due("a POINT behind " + name, desk.point(1), Curve.G);
    }

    private static void gives(BigInteger d, BigInteger k, BigInteger h, BigInteger r,
            BigInteger s) {
        Desk desk = new Desk();
        desk.put(0, d);
        desk.put(6, k);
        desk.put(7, h);
        desk.put(3, Curve.TOP);
        desk.put(4, Curve.TOP);
        String name = "sign of " + d.toString(16) + ", " + k.toString(16) + ", " + h.toString(16);
        Checks.due(name, desk.bench.sign(3, 4, 0, 6, 7), true);
        Checks.due("r of " + name, desk.number(3), r);
        Checks.due("s of " + name, desk.number(4), s);
    }

    /** d and k are from 1 to N - 1. */
    private static void lowestAndHighest() {
        BigInteger x = Curve.G.x();
        BigInteger last = Curve.N.subtract(Curve.ONE);
        BigInteger minusX = Curve.N.subtract(x);
        gives(Curve.ONE, Curve.ONE, Curve.ZERO, x, x);
        gives(last, Curve.ONE, Curve.ZERO, x, minusX);
        gives(Curve.ONE, last, Curve.ZERO, x, minusX);
        gives(last, last, Curve.ZERO, x, x);
    }

    private static void digestMayBeAny() {
        BigInteger x = Curve.G.x();
        gives(Curve.ONE, Curve.ONE, Curve.ONE, x, x.add(Curve.ONE));
        gives(Curve.ONE, Curve.ONE, Curve.N.subtract(Curve.ONE), x, x.subtract(Curve.ONE));
        gives(Curve.ONE, Curve.ONE, Curve.N, x, x);
        gives(Curve.ONE, Curve.ONE, Curve.N.add(Curve.ONE), x, x.add(Curve.ONE));
        gives(Curve.ONE, Curve.ONE, Curve.TOP, x, x.add(Curve.TOP.subtract(Curve.N)));
    }

    private static void sMayBeZero() {
        BigInteger d = Curve.big(12345);
        BigInteger k = Curve.big(678);
        BigInteger r = due(d, k, Curve.ONE)[0];
        BigInteger h = r.multiply(d).negate().mod(Curve.N);
        Checks.due("that s comes to 0", due(d, k, h)[1], Curve.ZERO);
        Desk desk = new Desk();
        desk.put(0, d);
        desk.put(1, k);
        desk.put(2, h);
        desk.put(4, Curve.ONE);
        Checks.due("sign whose s is 0", desk.bench.sign(3, 4, 0, 1, 2), true);
        Checks.due("r where s is 0", desk.number(3), r);
        Checks.due("s that is 0", desk.number(4), Curve.ZERO);
    }

    /** All is read before anything is put, and s is put last. */
    private static void everyPlace() {
        int[][] places = {{0, 1, 0, 1, 2}, {1, 0, 0, 1, 2}, {2, 2, 0, 1, 2}, {5, 5, 0, 1, 2},
            {0, 0, 0, 0, 0}, {1, 2, 0, 0, 0}, {3, 0, 1, 2, 2}, {2, 3, 1, 2, 1}};
        BigInteger[] values = {Curve.G.x(), Curve.G.y(), Curve.big(99), Curve.ZERO};
        for (int[] at : places) {
            Desk desk = new Desk();
            for (int r = 0; r < values.length; r++) {
                desk.put(r, values[r]);
            }
            BigInteger[] due = due(values[at[2]], values[at[3]], values[at[4]]);
            String name = "sign" + java.util.Arrays.toString(at);
            Checks.due(name, desk.bench.sign(at[0], at[1], at[2], at[3], at[4]), true);
            Checks.due("s of " + name, desk.number(at[1]), due[1]);
            Checks.due("r of " + name, desk.number(at[0]), at[0] == at[1] ? due[1] : due[0]);
        }
    }

    private static void falseChangesNothing(BigInteger d, BigInteger k) {
        int[][] places = {{0, 1}, {2, 3}, {4, 4}};
        for (int[] place : places) {
            Desk desk = Desk.filled();
            desk.put(2, d);
            desk.put(3, k);
            desk.denies("sign of " + d.toString(16) + ", " + k.toString(16),
                    bench -> bench.sign(place[0], place[1], 2, 3, 4));
        }
    }

    private static void wrongIndices() {
        for (int wrong : Desk.NOT_NUMBERS) {
            for (int place = 0; place < 5; place++) {
                int[] at = {0, 1, 2, 3, 4};
                at[place] = wrong;
                Desk.refuses("sign" + java.util.Arrays.toString(at),
                        bench -> bench.sign(at[0], at[1], at[2], at[3], at[4]));
            }
        }
    }
}
