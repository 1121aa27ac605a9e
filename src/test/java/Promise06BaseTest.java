/** Promise 6: base puts G into one POINT. */
public final class Promise06BaseTest {
    public static void main(String[] args) {
        for (int p = 0; p < Desk.POINTS; p++) {
            Desk desk = new Desk();
            desk.bench.base(p);
            for (int other = 0; other < Desk.POINTS; other++) {
                Checks.due("POINT " + other + " behind base(" + p + ")",
                        desk.point(other), other == p ? Curve.G : Curve.NONE);
            }
        }
        Desk desk = new Desk();
        desk.bench.base(1);
        desk.bench.add(1, 1, 1);
        desk.bench.base(2);
        Checks.due("base once G has been added to", desk.point(2), Curve.G);
        for (int p : Desk.NOT_FOUR) {
            Desk.refuses("base(" + p + ")", bench -> bench.base(p));
        }
        Checks.end();
    }
}
