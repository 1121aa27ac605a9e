/** Promise 1: a new object has 0 for every NUMBER and NONE for every POINT. */
public final class Promise01NewObjectTest {
    public static void main(String[] args) {
        PointBench bench = new PointBench();
        for (int r = 0; r < Desk.NUMBERS; r++) {
            for (int part = 0; part < Desk.PARTS; part++) {
                Checks.due("get(" + r + ", " + part + ")", bench.get(r, part), 0L);
            }
        }
        for (int p = 0; p < Desk.POINTS; p++) {
            Checks.due("show(" + p + ", 0, 1)", bench.show(p, 0, 1), false);
            Checks.due("same(" + p + ", 0)", bench.same(p, 0), true);
        }
        objectsShareNothing();
        Checks.end();
    }

    private static void objectsShareNothing() {
        Desk.filled();
        Desk other = new Desk();
        Checks.due("state of an object behind another's use", other.state(),
                "0 0 0 0 0 0 0 0 " + (Curve.NONE + " ").repeat(Desk.POINTS));
    }
}
