import java.math.BigInteger;
import java.util.Random;

/** Promise 5: work is + - * and the inverse modulo P and modulo N. */
public final class Promise05WorkTest {
    private static final int WORKS = 8;

    public static void main(String[] args) {
        for (BigInteger a : Values.edges()) {
            for (BigInteger b : Values.edges()) {
                everyWork(a, b);
            }
        }
        Random random = new Random(5);
        for (int i = 0; i < 3000; i++) {
            everyWork(Values.any(random), Values.any(random));
        }
        productsNearAMultiple(random);
        resultMayBeASource();
        falseChangesNothing();
        wrongIndices();
        Checks.end();
    }

    private static void everyWork(BigInteger a, BigInteger b) {
        Desk desk = new Desk();
        desk.put(1, a);
        desk.put(2, b);
        for (int what = 0; what < WORKS; what++) {
            String name = "work(" + what + ") of " + a.toString(16) + ", " + b.toString(16);
            BigInteger due = due(what, a, b);
            desk.put(0, Curve.TWO);
            Checks.due(name, desk.bench.work(what, 0, 1, 2), due != null);
            Checks.due("result of " + name, desk.number(0), due == null ? Curve.TWO : due);
        }
        Checks.due("a behind work", desk.number(1), a);
        Checks.due("b behind work", desk.number(2), b);
    }

    /** Null where work must answer false. */
    static BigInteger due(int what, BigInteger a, BigInteger b) {
        BigInteger modulus = what < 4 ? Curve.P : Curve.N;
        if (a.compareTo(modulus) >= 0) {
            return null;
        }
        if (what % 4 == 3) {
            return a.signum() == 0 ? null : a.modInverse(modulus);
        }
        if (b.compareTo(modulus) >= 0) {
            return null;
        }
        BigInteger[] results = {a.add(b), a.subtract(b), a.multiply(b)};
        return results[what % 4].mod(modulus);
    }

    /** Products that are a little off a multiple of the modulus, where a reduction goes wrong. */
    private static void productsNearAMultiple(Random random) {
        for (BigInteger modulus : new BigInteger[] {Curve.P, Curve.N}) {
            BigInteger rest = Curve.END.subtract(modulus);
            for (int i = -20; i < 60; i++) {
                BigInteger near = rest.multiply(Curve.big(i / 3)).add(Curve.big(i % 3 - 1));
                BigInteger b = new BigInteger(255, random);
                BigInteger a = near.multiply(b.modInverse(modulus)).mod(modulus);
                everyWork(a, b);
            }
        }
    }

    private static void resultMayBeASource() {
        BigInteger a = Curve.G.x();
        BigInteger b = Curve.G.y();
        for (int what = 0; what < WORKS; what++) {
            int[][] places = {{1, 1, 2}, {2, 1, 2}, {1, 1, 1}, {7, 1, 1}};
            for (int[] place : places) {
                Desk desk = new Desk();
                desk.put(1, a);
                desk.put(2, b);
                desk.bench.work(what, place[0], place[1], place[2]);
                Checks.due("work(" + what + ", " + place[0] + ", " + place[1] + ", " + place[2]
                        + ")", desk.number(place[0]), due(what, a, place[2] == 1 ? a : b));
            }
        }
    }

    private static void falseChangesNothing() {
        for (int what = 0; what < WORKS; what++) {
            int kind = what;
            BigInteger modulus = what < 4 ? Curve.P : Curve.N;
            Desk first = Desk.filled();
            first.put(4, modulus);
            first.denies("work(" + kind + ") of the modulus", b -> b.work(kind, 0, 4, 1));
            Desk second = Desk.filled();
            if (what % 4 == 3) {
                second.put(4, Curve.ZERO);
                second.denies("work(" + kind + ") of 0", b -> b.work(kind, 0, 4, 1));
            } else {
                second.put(4, modulus);
                second.denies("work(" + kind + ") with the modulus", b -> b.work(kind, 0, 1, 4));
            }
        }
    }

    private static void wrongIndices() {
        for (int wrong : Desk.NOT_NUMBERS) {
            Desk.refuses("work(" + wrong + ", 0, 1, 2)", b -> b.work(wrong, 0, 1, 2));
            for (int what = 0; what < WORKS; what++) {
                int kind = what;
                String name = "work(" + kind + ") with " + wrong + " for ";
                Desk.refuses(name + "r", b -> b.work(kind, wrong, 1, 2));
                Desk.refuses(name + "a", b -> b.work(kind, 0, wrong, 2));
                Desk.refuses(name + "b", b -> b.work(kind, 0, 1, wrong));
            }
        }
    }
}
