import java.math.BigInteger;
import java.util.Random;

/** Promise 9: lift puts the point of x whose y is odd, or even, if the curve has it. */
public final class Promise09LiftTest {
    public static void main(String[] args) {
        for (int x = 0; x < 60; x++) {
            lifts(Curve.big(x));
        }
        for (BigInteger x : Values.edges()) {
            lifts(x);
        }
        Random random = new Random(9);
        for (int i = 0; i < 100; i++) {
            lifts(Values.any(random));
        }
        for (int x = 0; x < 30; x++) {
            // Modulo P many of these have points, but they are not below P.
            lifts(Curve.P.add(Curve.big(x)));
        }
        falseChangesNothing(Curve.big(5));
        falseChangesNothing(Curve.P.add(Curve.ONE));
        wrongIndices();
        Checks.end();
    }

    private static void lifts(BigInteger x) {
        for (boolean odd : new boolean[] {false, true}) {
            Desk desk = new Desk();
            desk.put(4, x);
            Curve.Spot due = Curve.lifted(x, odd);
            String name = "lift of " + x.toString(16) + ", " + odd;
            Checks.due(name, desk.bench.lift(2, 4, odd), !due.equals(Curve.NONE));
            Checks.due("POINT behind " + name, desk.point(2), due);
            Checks.due("x behind " + name, desk.number(4), x);
        }
    }

    private static void falseChangesNothing(BigInteger x) {
        Checks.due("that the curve has no such x", Curve.lifted(x, true), Curve.NONE);
        for (boolean odd : new boolean[] {false, true}) {
            Desk desk = Desk.filled();
            desk.put(4, x);
            desk.denies("lift of " + x.toString(16), bench -> bench.lift(0, 4, odd));
        }
    }

    private static void wrongIndices() {
        for (int p : Desk.NOT_FOUR) {
            Desk.refuses("lift(" + p + ", 0, true)", bench -> bench.lift(p, 0, true));
        }
        for (int r : Desk.NOT_NUMBERS) {
            Desk.refuses("lift(0, " + r + ", false)", bench -> bench.lift(0, r, false));
        }
    }
}
