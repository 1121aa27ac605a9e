import java.math.BigInteger;
import java.util.Random;

/** Promise 9: lift puts the point of x whose y is odd, or even, if the curve has it. */
public final class Promise09LiftTest {
    public static void main(String[] args) {
        for (int x = 0; x < 60; x++) {
            lifts(Curve.big(x));
        }
        for (BigInteger x : Values.edges()) {
            lifts(x);
        }
        Random random = new Random(9);
        for (int i = 0; i < 100; i++) {
            lifts(Values.any(random));
        }
        for (int x = 0; x < 30; x++) {
            // Modulo P many of these have points, but they are not below P.
            lifts(Curve.P.add(Curve.big(x)));
        }
        outermostX();
        outermostY();
        falseChangesNothing(Curve.ZERO);
        falseChangesNothing(Curve.big(5));
        falseChangesNothing(Curve.P.subtract(Curve.ONE));
        falseChangesNothing(Curve.P);
        falseChangesNothing(Curve.P.add(Curve.ONE));
        falseChangesNothing(Curve.TOP);
        wrongIndices();
        Checks.end();
    }

    private static void lifts(BigInteger x) {
        for (boolean odd : new boolean[] {false, true}) {
            Desk desk = new Desk();
            desk.put(4, x);
            Curve.Spot due = Curve.lifted(x, odd);
            String name = "lift of " + x.toString(16) + ", " + odd;
            Checks.due(name, desk.bench.lift(2, 4, odd), !due.equals(Curve.NONE));
            Checks.due("POINT behind " + name, desk.point(2), due);
            Checks.due("x behind " + name, desk.number(4), x);
        }
    }

    private static void isLifted(String name, BigInteger x, boolean due) {
        Desk desk = new Desk();
        desk.put(0, x);
        Checks.due("lift of " + name + ", odd", desk.bench.lift(0, 0, true), due);
        Checks.due("lift of " + name + ", even", desk.bench.lift(3, 0, false), due);
    }

    /** 1 is the lowest x that a point has and P - 3 the highest; 1 comes again at P + 1. */
    private static void outermostX() {
        isLifted("0", Curve.ZERO, false);
        isLifted("1", Curve.ONE, true);
        for (int off = -4; off < 4; off++) {
            isLifted("P + " + off, Curve.P.add(Curve.big(off)), off < -2);
        }
        Curve.Spot again = Curve.lifted(Curve.TOP.subtract(Curve.P), true);
        Checks.due("that the highest of NUMBERS is the x of a point modulo P",
                again.equals(Curve.NONE), false);
        isLifted("the highest of NUMBERS", Curve.TOP, false);
    }

    /** The lowest y, 1, is odd; the highest, P - 1, is even. */
    private static void outermostY() {
        Curve.Spot low = Values.withY(Curve.ONE);
        Desk desk = new Desk();
        desk.put(0, low.x());
        Checks.due("lift of the x of y 1", desk.bench.lift(0, 0, true), true);
        Checks.due("lift of the x of y P - 1", desk.bench.lift(3, 0, false), true);
        Checks.due("the POINT of y 1", desk.point(0), low);
        Checks.due("the POINT of y P - 1", desk.point(3),
                new Curve.Spot(low.x(), Curve.P.subtract(Curve.ONE)));
    }

    private static void falseChangesNothing(BigInteger x) {
        Checks.due("that the curve has no such x", Curve.lifted(x, true), Curve.NONE);
        for (boolean odd : new boolean[] {false, true}) {
            Desk desk = Desk.filled();
            desk.put(4, x);
            desk.denies("lift of " + x.toString(16), bench -> bench.lift(0, 4, odd));
        }
    }

    private static void wrongIndices() {
        for (int p : Desk.NOT_FOUR) {
            Desk.refuses("lift(" + p + ", 0, true)", bench -> bench.lift(p, 0, true));
        }
        for (int r : Desk.NOT_NUMBERS) {
            Desk.refuses("lift(0, " + r + ", false)", bench -> bench.lift(0, r, false));
        }
    }
}
