import java.math.BigInteger;
import java.util.Random;

/** Promise 5: work is + - * and the inverse modulo P and modulo N. */
public final class Promise05WorkTest {
    private static final int WORKS = 8;

    public static void main(String[] args) {
        for (BigInteger a : Values.edges()) {
            for (BigInteger b : Values.edges()) {
                everyWork(a, b);
            }
        }
        Random random = new Random(5);
        for (int i = 0; i < 3000; i++) {
            everyWork(Values.any(random), Values.any(random));
        }
        productsNearAMultiple(random);
        resultMayBeASource();
        sumsAtTheModulus();
        differencesAtZero();
        productsAndInversesAtTheEdges();
        belowTheModulusOrNot();
        zeroHasNoInverse();
        theOtherOfAnInverseDoesNotCount();
        wrongIndices();
        Checks.end();
    }

    private static void everyWork(BigInteger a, BigInteger b) {
        Desk desk = new Desk();
        desk.put(1, a);
        desk.put(2, b);
        for (int what = 0; what < WORKS; what++) {
            String name = "work(" + what + ") of " + a.toString(16) + ", " + b.toString(16);
            BigInteger due = due(what, a, b);
            desk.put(0, Curve.TWO);
            Checks.due(name, desk.bench.work(what, 0, 1, 2), due != null);
            Checks.due("result of " + name, desk.number(0), due == null ? Curve.TWO : due);
        }
        Checks.due("a behind work", desk.number(1), a);
        Checks.due("b behind work", desk.number(2), b);
    }

    /** Null where work must answer false. */
    static BigInteger due(int what, BigInteger a, BigInteger b) {
        BigInteger modulus = modulus(what);
        if (a.compareTo(modulus) >= 0) {
            return null;
        }
        if (what % 4 == 3) {
            return a.signum() == 0 ? null : a.modInverse(modulus);
        }
        if (b.compareTo(modulus) >= 0) {
            return null;
        }
        BigInteger[] results = {a.add(b), a.subtract(b), a.multiply(b)};
        return results[what % 4].mod(modulus);
    }

    /** Products that are a little off a multiple of the modulus, where a reduction goes wrong. */
    private static void productsNearAMultiple(Random random) {
        for (BigInteger modulus : new BigInteger[] {Curve.P, Curve.N}) {
            BigInteger rest = Curve.END.subtract(modulus);
            for (int i = -20; i < 60; i++) {
                BigInteger near = rest.multiply(Curve.big(i / 3)).add(Curve.big(i % 3 - 1));
                BigInteger b = new BigInteger(255, random);
                BigInteger a = near.multiply(b.modInverse(modulus)).mod(modulus);
                everyWork(a, b);
            }
        }
    }

    private static void resultMayBeASource() {
        BigInteger a = Curve.G.x();
        BigInteger b = Curve.G.y();
        for (int what = 0; what < WORKS; what++) {
            int[][] places = {{1, 1, 2}, {2, 1, 2}, {1, 1, 1}, {7, 1, 1}};
            for (int[] place : places) {
                Desk desk = new Desk();
                desk.put(1, a);
                desk.put(2, b);
                desk.bench.work(what, place[0], place[1], place[2]);
                Checks.due("work(" + what + ", " + place[0] + ", " + place[1] + ", " + place[2]
                        + ")", desk.number(place[0]), due(what, a, place[2] == 1 ? a : b));
            }
        }
    }

    private static BigInteger modulus(int what) {
        return what < 4 ? Curve.P : Curve.N;
    }

    /** Over NUMBERS that have all bits, so that none is left of what was there. */
    private static void gives(int what, BigInteger a, BigInteger b, BigInteger due) {
        Desk desk = new Desk();
        desk.put(0, Curve.TOP);
        desk.put(1, a);
        desk.put(2, b);
        String name = "work(" + what + ") of " + a.toString(16) + ", " + b.toString(16);
        Checks.due(name, desk.bench.work(what, 0, 1, 2), true);
        Checks.due("result of " + name, desk.number(0), due);
    }

    /** False, and nothing has changed, wherever the result was to be put. */
    private static void denied(int what, BigInteger a, BigInteger b) {
        for (int place : new int[] {0, 4, 5}) {
            Desk desk = Desk.filled();
            desk.put(4, a);
            desk.put(5, b);
            desk.denies("work(" + what + ", " + place + ") of " + a.toString(16) + ", "
                    + b.toString(16), bench -> bench.work(what, place, 4, 5));
        }
    }

    /** Around the modulus, around 2^256, and as high as sums go. */
    private static void sumsAtTheModulus() {
        for (int what : new int[] {0, 4}) {
            BigInteger last = modulus(what).subtract(Curve.ONE);
            BigInteger half = modulus(what).shiftRight(1);
            BigInteger rest = Curve.END.subtract(modulus(what));
            gives(what, Curve.ZERO, Curve.ZERO, Curve.ZERO);
            gives(what, last, Curve.ZERO, last);
            gives(what, half, half, last);
            gives(what, last, Curve.ONE, Curve.ZERO);
            gives(what, half, half.add(Curve.ONE), Curve.ZERO);
            gives(what, last, Curve.TWO, Curve.ONE);
            gives(what, last, rest, rest.subtract(Curve.ONE));
            gives(what, last, rest.add(Curve.ONE), rest);
            gives(what, last, rest.add(Curve.TWO), rest.add(Curve.ONE));
            gives(what, last, last, last.subtract(Curve.ONE));
        }
    }

    private static void differencesAtZero() {
        for (int what : new int[] {1, 5}) {
            BigInteger last = modulus(what).subtract(Curve.ONE);
            gives(what, Curve.ONE, Curve.ZERO, Curve.ONE);
            gives(what, Curve.ZERO, Curve.ZERO, Curve.ZERO);
            gives(what, last, last, Curve.ZERO);
            gives(what, Curve.ZERO, Curve.ONE, last);
            gives(what, last.subtract(Curve.ONE), last, last);
            gives(what, last, Curve.ZERO, last);
            gives(what, Curve.ZERO, last, Curve.ONE);
        }
    }

    private static void productsAndInversesAtTheEdges() {
        for (int what : new int[] {2, 6}) {
            BigInteger last = modulus(what).subtract(Curve.ONE);
            BigInteger half = modulus(what).shiftRight(1);
            gives(what, Curve.ZERO, last, Curve.ZERO);
            gives(what, last, Curve.ZERO, Curve.ZERO);
            gives(what, Curve.ONE, last, last);
            gives(what, last, last, Curve.ONE);
            gives(what, half, Curve.TWO, last);
            gives(what, half.add(Curve.ONE), Curve.TWO, Curve.ONE);
            int inverse = what + 1;
            gives(inverse, Curve.ONE, Curve.ZERO, Curve.ONE);
            gives(inverse, Curve.TWO, Curve.ZERO, half.add(Curve.ONE));
            gives(inverse, half.add(Curve.ONE), Curve.ZERO, Curve.TWO);
            gives(inverse, half, Curve.ZERO, last.subtract(Curve.ONE));
            gives(inverse, last, Curve.ZERO, last);
        }
    }

    private static void belowTheModulusOrNot() {
        for (int what = 0; what < WORKS; what++) {
            BigInteger last = modulus(what).subtract(Curve.ONE);
            gives(what, last, Curve.ONE, due(what, last, Curve.ONE));
            gives(what, Curve.ONE, last, due(what, Curve.ONE, last));
            BigInteger[] wrongs = {modulus(what), modulus(what).add(Curve.ONE), Curve.TOP};
            for (BigInteger wrong : wrongs) {
                denied(what, wrong, Curve.ONE);
                denied(what, wrong, wrong);
                if (what % 4 != 3) {
                    denied(what, Curve.ONE, wrong);
                }
            }
        }
        // From N on, but below P, a NUMBER will do for the one and not for the other.
        for (int what = 0; what < 3; what++) {
            gives(what, Curve.N, Curve.ONE, due(what, Curve.N, Curve.ONE));
            denied(what + 4, Curve.P.subtract(Curve.ONE), Curve.ONE);
            denied(what + 4, Curve.ONE, Curve.P.subtract(Curve.ONE));
        }
    }

    private static void zeroHasNoInverse() {
        for (int what : new int[] {3, 7}) {
            denied(what, Curve.ZERO, Curve.ONE);
            denied(what, Curve.ZERO, Curve.ZERO);
            denied(what, Curve.ZERO, Curve.TOP);
            for (int part = 0; part < Desk.PARTS; part++) {
                BigInteger lowest = Curve.ONE.shiftLeft(64 * part);
                gives(what, lowest, Curve.ZERO, lowest.modInverse(modulus(what)));
            }
        }
    }

    private static void theOtherOfAnInverseDoesNotCount() {
        for (int what : new int[] {3, 7}) {
            BigInteger m = modulus(what);
            BigInteger due = m.shiftRight(1).add(Curve.ONE);
            for (BigInteger b : new BigInteger[] {Curve.ZERO, m.subtract(Curve.ONE), m,
                m.add(Curve.ONE), Curve.TOP}) {
                gives(what, Curve.TWO, b, due);
            }
        }
    }

    private static void wrongIndices() {
        for (int wrong : Desk.NOT_NUMBERS) {
            Desk.refuses("work(" + wrong + ", 0, 1, 2)", b -> b.work(wrong, 0, 1, 2));
            for (int what = 0; what < WORKS; what++) {
                int kind = what;
                String name = "work(" + kind + ") with " + wrong + " for ";
                Desk.refuses(name + "r", b -> b.work(kind, wrong, 1, 2));
                Desk.refuses(name + "a", b -> b.work(kind, 0, wrong, 2));
                Desk.refuses(name + "b", b -> b.work(kind, 0, 1, wrong));
            }
        }
    }
}
