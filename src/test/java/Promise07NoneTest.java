/** Promise 7: none puts NONE into one POINT. */
public final class Promise07NoneTest {
    public static void main(String[] args) {
        for (int p = 0; p < Desk.POINTS; p++) {
            Desk desk = new Desk();
            for (int each = 0; each < Desk.POINTS; each++) {
                desk.bench.base(each);
            }
            desk.bench.none(p);
            for (int other = 0; other < Desk.POINTS; other++) {
                Checks.due("POINT " + other + " behind none(" + p + ")",
                        desk.point(other), other == p ? Curve.NONE : Curve.G);
            }
            desk.bench.base(p);
            Checks.due("base(" + p + ") behind none", desk.point(p), Curve.G);
        }
        for (int p : Desk.NOT_FOUR) {
            Desk.refuses("none(" + p + ")", bench -> bench.none(p));
        }
        Checks.end();
    }
}
