import java.math.BigInteger;

/** Promise 13: same tells whether two POINTS are the same. */
public final class Promise13SameTest {
    public static void main(String[] args) {
        BigInteger third = Curve.big(3).modPow(
                Curve.P.subtract(Curve.ONE).divide(Curve.big(3)), Curve.P);
        Curve.Spot[] spots = {
            Curve.NONE, Curve.G, Curve.minus(Curve.G), Curve.sum(Curve.G, Curve.G),
            new Curve.Spot(Curve.G.x().multiply(third).mod(Curve.P), Curve.G.y()),
        };
        for (Curve.Spot a : spots) {
            for (Curve.Spot b : spots) {
                Desk desk = new Desk();
                desk.putPoint(1, a);
                desk.putPoint(3, b);
                Checks.due("same of " + a + " and " + b, desk.bench.same(1, 3), a.equals(b));
                Checks.due("same of " + b + " and " + a, desk.bench.same(3, 1), a.equals(b));
                Checks.due("same of one", desk.bench.same(1, 1), true);
            }
        }
        whatComesByOtherWays();
        noneHidesWhatItWas();
        for (Curve.Spot a : Values.edgePoints()) {
            for (Curve.Spot b : Values.edgePoints()) {
                Desk desk = new Desk();
                desk.putPoint(0, a);
                desk.putPoint(3, b);
                Checks.due("same of " + a + ", " + b, desk.bench.same(0, 3), a.equals(b));
            }
        }
        for (int p : Desk.NOT_FOUR) {
            Desk.refuses("same(" + p + ", 0)", bench -> bench.same(p, 0));
            Desk.refuses("same(0, " + p + ")", bench -> bench.same(0, p));
            Desk.refuses("same(" + p + ", " + p + ")", bench -> bench.same(p, p));
        }
        Checks.end();
    }

    private static void noneHidesWhatItWas() {
        PointBench bench = new PointBench();
        bench.base(0);
        bench.base(1);
        bench.none(1);
        Checks.due("same of G and what was G", bench.same(0, 1), false);
        Checks.due("same of what was G and G", bench.same(1, 0), false);
        bench.add(0, 0, 0);
        bench.none(0);
        Checks.due("same of two that were not the same", bench.same(0, 1), true);
        Checks.due("same of what was G and what was nothing", bench.same(1, 2), true);
    }

    private static void whatComesByOtherWays() {
        Desk desk = new Desk();
        desk.bench.base(0);
        desk.put(0, Curve.big(3));
        desk.bench.times(1, 0, 0);
        desk.bench.add(2, 0, 0);
        desk.bench.add(2, 2, 0);
        Checks.due("same of 3 G and G + G + G", desk.bench.same(1, 2), true);
        desk.put(0, Curve.N);
        desk.bench.times(1, 0, 2);
        Checks.due("same of N times a point and NONE", desk.bench.same(1, 3), true);
        String before = desk.state();
        desk.bench.same(0, 1);
        Checks.due("the state behind same", desk.state(), before);
    }
}
