/** Promise 10: show puts a POINT's x and y into NUMBERS, y last. */
public final class Promise10ShowTest {
    public static void main(String[] args) {
        Curve.Spot spot = Curve.multiple(Curve.big(11), Curve.G);
        for (int x = 0; x < Desk.NUMBERS; x++) {
            for (int y = 0; y < Desk.NUMBERS; y++) {
                Desk desk = new Desk();
                desk.putPoint(3, spot);
                Checks.due("show(3, " + x + ", " + y + ")", desk.bench.show(3, x, y), true);
                for (int r = 0; r < Desk.NUMBERS; r++) {
                    Checks.due("NUMBER " + r + " behind show(3, " + x + ", " + y + ")",
                            desk.number(r), r == y ? spot.y() : r == x ? spot.x() : Curve.ZERO);
                }
                Checks.due("the POINT behind show", desk.point(3), spot);
            }
        }
        lowAndHighOverFullNumbers();
        Desk.filled().denies("show of one NUMBER for both of NONE",
                bench -> bench.show(3, 7, 7));
        Desk.filled().denies("show of NONE", bench -> bench.show(3, 0, 1));
        Desk desk = Desk.filled();
        desk.bench.none(0);
        desk.denies("show of what has become NONE", bench -> bench.show(0, 0, 1));
        wrongIndices();
        Checks.end();
    }

    /** A low x or y has PARTS that are 0, and these are put, too. */
    private static void lowAndHighOverFullNumbers() {
        for (Curve.Spot spot : Values.edgePoints()) {
            Desk desk = new Desk();
            desk.putPoint(2, spot);
            desk.put(0, Curve.TOP);
            desk.put(7, Curve.TOP);
            boolean is = !spot.equals(Curve.NONE);
            Checks.due("show of " + spot, desk.bench.show(2, 7, 0), is);
            Checks.due("x of " + spot, desk.number(7), is ? spot.x() : Curve.TOP);
            Checks.due("y of " + spot, desk.number(0), is ? spot.y() : Curve.TOP);
        }
    }

    /** Each for a POINT that is there and for NONE. */
    private static void wrongIndices() {
        for (int p : Desk.NOT_FOUR) {
            Desk.refuses("show(" + p + ", 0, 1)", bench -> bench.show(p, 0, 1));
        }
        for (int r : Desk.NOT_NUMBERS) {
            for (int p : new int[] {0, 3}) {
                Desk.refuses("show(" + p + ", " + r + ", 1)", bench -> bench.show(p, r, 1));
                Desk.refuses("show(" + p + ", 1, " + r + ")", bench -> bench.show(p, 1, r));
            }
        }
    }
}
