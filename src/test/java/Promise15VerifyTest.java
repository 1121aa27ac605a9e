import java.math.BigInteger;
import java.util.Random;

/** Promise 15: verify tells whether the x of (h by s) G + (r by s) K is r modulo N. */
public final class Promise15VerifyTest {
    public static void main(String[] args) {
        Random random = new Random(15);
        for (int i = 0; i < 12; i++) {
            signedAndChanged(Values.any(random).mod(Curve.N).max(Curve.ONE),
                    Values.any(random).mod(Curve.N).max(Curve.ONE), Values.any(random));
        }
        for (BigInteger h : Values.edges()) {
            signedAndChanged(Curve.big(77), Curve.G.x(), h);
        }
        keysThatMeetG();
        sumIsNone();
        noneIsNotOverlooked();
        xFromNOn();
        xOfN();
        rFromOneToNLessOne();
        sFromOneToNLessOne();
        everyPlace();
        outOfRange();
        for (BigInteger edge : Values.edges()) {
            asDue(Curve.multiple(Curve.big(5), Curve.G), Curve.big(3), edge, Curve.big(9));
            asDue(Curve.multiple(Curve.big(5), Curve.G), Curve.big(3), Curve.big(9), edge);
        }
        changesNothing();
        wrongIndices();
        Checks.end();
    }

    static boolean due(Curve.Spot key, BigInteger h, BigInteger r, BigInteger s) {
        if (key.equals(Curve.NONE) || r.signum() == 0 || s.signum() == 0
                || r.compareTo(Curve.N) >= 0 || s.compareTo(Curve.N) >= 0) {
            return false;
        }
        BigInteger by = s.modInverse(Curve.N);
        Curve.Spot sum = Curve.sum(
                Curve.multiple(h.multiply(by).mod(Curve.N), Curve.G),
                Curve.multiple(r.multiply(by).mod(Curve.N), key));
        return !sum.equals(Curve.NONE) && sum.x().mod(Curve.N).equals(r);
    }

    private static boolean verified(Curve.Spot key, BigInteger h, BigInteger r, BigInteger s) {
        Desk desk = new Desk();
        desk.put(4, h);
        desk.put(5, r);
        desk.put(6, s);
        desk.putPoint(1, key);
        return desk.bench.verify(1, 4, 5, 6);
    }

    private static void asDue(Curve.Spot key, BigInteger h, BigInteger r, BigInteger s) {
        Checks.due("verify of " + key + ", " + h.toString(16) + ", " + r.toString(16) + ", "
                + s.toString(16), verified(key, h, r, s), due(key, h, r, s));
    }

    private static void holds(String name, boolean got) {
        Checks.due("verify of " + name, got, true);
    }

    private static void fails(String name, boolean got) {
        Checks.due("verify of " + name, got, false);
    }

    private static void signedAndChanged(BigInteger d, BigInteger k, BigInteger h) {
        Curve.Spot key = Curve.multiple(d, Curve.G);
        BigInteger[] signature = Promise14SignTest.due(d, k, h);
        BigInteger r = signature[0];
        BigInteger s = signature[1];
        holds("a signature of " + h.toString(16), verified(key, h, r, s));
        holds("N - s", verified(key, h, r, Curve.N.subtract(s)));
        holds("h modulo N", verified(key, h.mod(Curve.N), r, s));
        fails("another h", verified(key, h.flipBit(0), r, s));
        fails("another r", verified(key, h, r.flipBit(3), s));
        fails("another s", verified(key, h, r, s.flipBit(3)));
        asDue(Curve.minus(key), h, r, s);
        asDue(Curve.sum(key, Curve.G), h, r, s);
    }

    /** The two multiples run into each other on the way, or are the same at its end. */
    private static void keysThatMeetG() {
        BigInteger minusOne = Curve.N.subtract(Curve.ONE);
        BigInteger[] secrets = {Curve.ONE, minusOne, Curve.TWO, Curve.big(3),
            Curve.N.shiftRight(1), Curve.N.shiftRight(1).add(Curve.ONE)};
        for (BigInteger d : secrets) {
            Curve.Spot key = Curve.multiple(d, Curve.G);
            BigInteger r = Promise14SignTest.due(d, Curve.big(1000), Curve.ONE)[0];
            BigInteger h = r.multiply(d).mod(Curve.N);
            BigInteger[] signature = Promise14SignTest.due(d, Curve.big(1000), h);
            holds("two multiples that are the same", verified(key, h, r, signature[1]));
            for (int k = 1; k < 6; k++) {
                BigInteger[] other = Promise14SignTest.due(d, Curve.big(k), Curve.big(k));
                holds("a small k", verified(key, Curve.big(k), other[0], other[1]));
                asDue(key, Curve.big(k), Curve.big(k), Curve.ONE);
                asDue(key, Curve.big(k), Curve.N.subtract(Curve.big(k)), Curve.ONE);
            }
        }
    }

    private static void sumIsNone() {
        BigInteger r = Curve.G.x().mod(Curve.N);
        BigInteger h = Curve.big(4711);
        BigInteger d = h.negate().multiply(r.modInverse(Curve.N)).mod(Curve.N);
        fails("what comes to NONE", verified(Curve.multiple(d, Curve.G), h, r, Curve.big(5)));
        fails("G and -G", verified(Curve.minus(Curve.G), Curve.ONE, Curve.ONE, Curve.ONE));
    }

    /** Neither G's part alone nor what an earlier call found may stand in for the sum. */
    private static void noneIsNotOverlooked() {
        BigInteger k = Curve.big(88);
        BigInteger s = Curve.big(5);
        BigInteger r = Curve.multiple(k, Curve.G).x().mod(Curve.N);
        BigInteger h = k.multiply(s);
        fails("NONE where (h by s) G has r", verified(Curve.NONE, h, r, s));
        Desk desk = new Desk();
        BigInteger d = Curve.big(77);
        desk.put(4, k.multiply(s).subtract(r.multiply(d)).mod(Curve.N));
        desk.put(5, r);
        desk.put(6, s);
        desk.putPoint(1, Curve.multiple(d, Curve.G));
        holds("a signature", desk.bench.verify(1, 4, 5, 6));
        BigInteger other = desk.number(4).negate().multiply(r.modInverse(Curve.N)).mod(Curve.N);
        desk.putPoint(2, Curve.multiple(other, Curve.G));
        holds("a signature, again", desk.bench.verify(1, 4, 5, 6));
        fails("what comes to NONE behind a signature", desk.bench.verify(2, 4, 5, 6));
    }

    /** The key with which h, r and s come to this end. */
    private static Curve.Spot keyFor(Curve.Spot end, BigInteger h, BigInteger r, BigInteger s) {
        BigInteger byS = s.modInverse(Curve.N);
        Curve.Spot ofG = Curve.multiple(h.multiply(byS).mod(Curve.N), Curve.G);
        return Curve.multiple(s.multiply(r.modInverse(Curve.N)).mod(Curve.N),
                Curve.sum(end, Curve.minus(ofG)));
    }

    /** The curve has a point whose x is N, which is 0 modulo N: no r will do for it. */
    private static void xOfN() {
        Curve.Spot end = Curve.lifted(Curve.N, true);
        Checks.due("that N is the x of a point", end.equals(Curve.NONE), false);
        BigInteger h = Curve.big(31);
        BigInteger s = Curve.big(32);
        for (BigInteger r : new BigInteger[] {Curve.ONE, Curve.N.subtract(Curve.ONE)}) {
            Curve.Spot key = keyFor(end, h, r, s);
            fails("an x of N and r " + r.toString(16), verified(key, h, r, s));
            fails("an x of N and r 0", verified(key, h, Curve.ZERO, s));
            fails("an x of N and r N", verified(key, h, Curve.N, s));
        }
    }

    /** As N - 1 is the x of no point, N - 2 is the highest r that any signature has. */
    private static void rFromOneToNLessOne() {
        BigInteger h = Curve.big(41);
        BigInteger s = Curve.big(42);
        BigInteger[] xs = {Curve.ONE, Curve.TWO, Curve.N.subtract(Curve.TWO),
            Curve.N.add(Curve.TWO), Curve.P.subtract(Curve.big(3))};
        for (BigInteger x : xs) {
            BigInteger r = x.mod(Curve.N);
            Curve.Spot key = keyFor(Curve.lifted(x, false), h, r, s);
            holds("an x of " + x.toString(16), verified(key, h, r, s));
            fails("r one above x", verified(key, h, r.add(Curve.ONE), s));
            fails("r one below x", verified(key, h, r.subtract(Curve.ONE), s));
            fails("r 0", verified(key, h, Curve.ZERO, s));
            fails("r N", verified(key, h, Curve.N, s));
        }
        Curve.Spot key = keyFor(Curve.lifted(Curve.ONE, true), h, Curve.ONE, s);
        holds("r 1", verified(key, h, Curve.ONE, s));
        fails("r N + 1", verified(key, h, Curve.N.add(Curve.ONE), s));
        asDue(key, h, Curve.N.subtract(Curve.ONE), s);
    }

    private static void sFromOneToNLessOne() {
        Curve.Spot end = Curve.multiple(Curve.big(88), Curve.G);
        BigInteger r = end.x().mod(Curve.N);
        BigInteger h = Curve.big(51);
        BigInteger last = Curve.N.subtract(Curve.ONE);
        Curve.Spot key = keyFor(end, h, r, Curve.ONE);
        holds("s 1", verified(key, h, r, Curve.ONE));
        holds("s N - 1", verified(key, h, r, last));
        fails("s 0", verified(key, h, r, Curve.ZERO));
        fails("s 2", verified(key, h, r, Curve.TWO));
        fails("s N - 2", verified(key, h, r, last.subtract(Curve.ONE)));
        fails("s N", verified(key, h, r, Curve.N));
        fails("s N + 1", verified(key, h, r, Curve.N.add(Curve.ONE)));
        fails("the highest of NUMBERS for s", verified(key, h, r, Curve.TOP));
    }

    /** Wherever a signature stands, even with one NUMBER for more than one of its parts. */
    private static void everyPlace() {
        BigInteger k = Curve.big(61);
        BigInteger r = Curve.multiple(k, Curve.G).x().mod(Curve.N);
        Curve.Spot end = Curve.multiple(k, Curve.G);
        int[][] places = {{0, 3, 7}, {7, 0, 3}, {3, 7, 0}, {0, 0, 7}, {7, 0, 0}, {0, 7, 0},
            {7, 7, 7}, {0, 0, 0}};
        for (int[] at : places) {
            BigInteger h = at[0] == at[1] || at[0] == at[2] ? r : Curve.big(62);
            BigInteger s = at[2] == at[1] || at[2] == at[0] ? r : Curve.big(63);
            for (int p = 0; p < Desk.POINTS; p++) {
                Desk desk = Desk.filled();
                desk.put(at[0], h);
                desk.put(at[2], s);
                desk.put(at[1], r);
                desk.putPoint(p, keyFor(end, h, r, s));
                String before = desk.state();
                String name = p + java.util.Arrays.toString(at);
                holds("a signature at " + name, desk.bench.verify(p, at[0], at[1], at[2]));
                Checks.due("the state behind verify " + name, desk.state(), before);
            }
        }
    }

    /** An x of N or above has r = x - N; only a key made for it brings such an x about. */
    private static void xFromNOn() {
        int seen = 0;
        for (int low = 1; low < 40; low++) {
            BigInteger r = Curve.big(low);
            Curve.Spot end = Curve.lifted(Curve.N.add(r), low % 2 == 0);
            if (end.equals(Curve.NONE)) {
                continue;
            }
            seen++;
            BigInteger h = Curve.big(1000 + low);
            BigInteger s = Curve.big(2000 + low);
            Curve.Spot key = keyFor(end, h, r, s);
            holds("an x of N + " + low, verified(key, h, r, s));
            fails("r not below N, though it is x", verified(key, h, r.add(Curve.N), s));
        }
        Checks.due("that there are such x", seen > 5, true);
    }

    private static void outOfRange() {
        Curve.Spot key = Curve.multiple(Curve.big(77), Curve.G);
        BigInteger h = Curve.G.y();
        BigInteger[] signature = Promise14SignTest.due(Curve.big(77), Curve.big(88), h);
        BigInteger r = signature[0];
        BigInteger s = signature[1];
        fails("NONE", verified(Curve.NONE, h, r, s));
        BigInteger[] wrongs = {Curve.ZERO, Curve.N, Curve.N.add(Curve.ONE), Curve.TOP};
        for (BigInteger wrong : wrongs) {
            fails("r " + wrong.toString(16), verified(key, h, wrong, s));
            fails("s " + wrong.toString(16), verified(key, h, r, wrong));
        }
        // s + N would do as well as s if only its remainder counted.
        BigInteger small = Curve.big(6);
        BigInteger fit = small.multiply(Curve.big(88)).subtract(r.multiply(Curve.big(77)))
                .mod(Curve.N);
        Curve.Spot of88 = Curve.multiple(Curve.big(88), Curve.G);
        Checks.due("that r is the x of 88 G", of88.x().mod(Curve.N), r);
        holds("a small s", verified(key, fit, r, small));
        fails("a small s + N", verified(key, fit, r, small.add(Curve.N)));
    }

    private static void changesNothing() {
        Desk desk = Desk.filled();
        String before = desk.state();
        desk.bench.verify(0, 1, 2, 3);
        Checks.due("the state behind verify", desk.state(), before);
        Desk.filled().denies("verify of NONE", bench -> bench.verify(3, 1, 2, 3));
        for (BigInteger wrong : new BigInteger[] {Curve.ZERO, Curve.N, Curve.TOP}) {
            Desk out = Desk.filled();
            out.put(2, wrong);
            out.denies("verify, r out of range", bench -> bench.verify(0, 1, 2, 3));
            Desk beyond = Desk.filled();
            beyond.put(3, wrong);
            beyond.denies("verify, s out of range", bench -> bench.verify(0, 1, 2, 3));
        }
    }

    private static void wrongIndices() {
        for (int p : Desk.NOT_FOUR) {
            Desk.refuses("verify(" + p + ", 0, 1, 2)", bench -> bench.verify(p, 0, 1, 2));
        }
        for (int r : Desk.NOT_NUMBERS) {
            // POINT 3 is NONE there, which must not hide a NUMBER that is none.
            for (int p : new int[] {0, 3}) {
                Desk.refuses("verify with digest " + r, bench -> bench.verify(p, r, 1, 2));
                Desk.refuses("verify with r " + r, bench -> bench.verify(p, 0, r, 2));
                Desk.refuses("verify with s " + r, bench -> bench.verify(p, 0, 1, r));
            }
        }
    }
}
