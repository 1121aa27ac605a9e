import java.math.BigInteger;
import java.util.Random;

/** Promise 11: add puts the sum of two POINTS. */
public final class Promise11AddTest {
    public static void main(String[] args) {
        Curve.Spot g = Curve.G;
        Curve.Spot three = Curve.multiple(Curve.big(3), g);
        sums(Curve.NONE, Curve.NONE);
        sums(Curve.NONE, g);
        sums(g, Curve.NONE);
        sums(g, g);
        sums(g, Curve.minus(g));
        sums(Curve.minus(g), g);
        sums(g, three);
        sums(three, Curve.minus(g));
        sameYOtherX(g);
        for (Curve.Spot a : Values.edgePoints()) {
            for (Curve.Spot b : Values.edgePoints()) {
                sums(a, b);
            }
        }
        noneIsKept();
        Random random = new Random(11);
        for (int i = 0; i < 60; i++) {
            Curve.Spot a = Curve.multiple(new BigInteger(256, random), g);
            Curve.Spot b = Curve.multiple(new BigInteger(256, random), g);
            sums(a, b);
            sums(a, a);
            sums(b, Curve.minus(b));
        }
        everyPlace();
        for (int p : Desk.NOT_FOUR) {
            Desk.refuses("add(" + p + ", 0, 1)", bench -> bench.add(p, 0, 1));
            Desk.refuses("add(0, " + p + ", 1)", bench -> bench.add(0, p, 1));
            Desk.refuses("add(0, 1, " + p + ")", bench -> bench.add(0, 1, p));
        }
        Checks.end();
    }

    private static void sums(Curve.Spot a, Curve.Spot b) {
        Desk desk = new Desk();
        desk.putPoint(0, a);
        desk.putPoint(1, b);
        desk.bench.base(2);
        desk.bench.add(2, 0, 1);
        Checks.due("sum of " + a + " and " + b, desk.point(2), Curve.sum(a, b));
        Checks.due("POINT a behind add", desk.point(0), a);
        Checks.due("POINT b behind add", desk.point(1), b);
    }

    /** x times a third root of 1 has the same y: the slope is 0. */
    private static void sameYOtherX(Curve.Spot a) {
        BigInteger third = Curve.big(3).modPow(
                Curve.P.subtract(Curve.ONE).divide(Curve.big(3)), Curve.P);
        Checks.due("that the root is not 1", third.equals(Curve.ONE), false);
        Curve.Spot b = new Curve.Spot(a.x().multiply(third).mod(Curve.P), a.y());
        sums(a, b);
        sums(a, Curve.minus(b));
    }

    /** What has come to NONE is NONE for all that follows. */
    private static void noneIsKept() {
        Desk desk = new Desk();
        desk.bench.base(0);
        desk.putPoint(1, Curve.minus(Curve.G));
        desk.bench.add(0, 0, 1);
        Checks.due("G and -G, put for G", desk.point(0), Curve.NONE);
        desk.bench.add(2, 0, 0);
        Checks.due("NONE with itself", desk.point(2), Curve.NONE);
        desk.bench.add(2, 0, 1);
        Checks.due("what came to NONE with -G", desk.point(2), Curve.minus(Curve.G));
        desk.bench.add(2, 2, 0);
        Checks.due("-G with what came to NONE", desk.point(2), Curve.minus(Curve.G));
    }

    private static void everyPlace() {
        for (int i = 0; i < Desk.POINTS * Desk.POINTS * Desk.POINTS; i++) {
            int p = i / 16;
            int a = i / 4 % 4;
            int b = i % 4;
            Desk desk = Desk.filled();
            Curve.Spot due = Curve.sum(desk.point(a), desk.point(b));
            desk.bench.add(p, a, b);
            Checks.due("add(" + p + ", " + a + ", " + b + ")", desk.point(p), due);
        }
    }
}
