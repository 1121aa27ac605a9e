import java.lang.reflect.Field;
import java.lang.reflect.Method;
import java.math.BigInteger;

/**
 * Promise 14: "NUMBER r is the x of k G modulo N", "r and s may come to 0". The curve has points
 * whose x is N or above, but of none of them a k is known. So this test alone reaches inside the
 * object, and puts such a point where G stands: then k may be 1, or N - 1.
 */
public final class Promise14RemainderTest {
    public static void main(String[] args) throws ReflectiveOperationException {
        BigInteger highest = Curve.P.subtract(Curve.big(3));
        signsWith(Curve.N.subtract(Curve.TWO), Curve.N.subtract(Curve.TWO));
        signsWith(Curve.N, Curve.ZERO);
        signsWith(Curve.N.add(Curve.TWO), Curve.TWO);
        signsWith(highest, highest.subtract(Curve.N));
        Checks.end();
    }

    private static void signsWith(BigInteger x, BigInteger r) throws ReflectiveOperationException {
        BigInteger d = Curve.big(5);
        for (BigInteger h : new BigInteger[] {Curve.ZERO, Curve.big(70), Curve.TOP}) {
            BigInteger s = h.add(r.multiply(d)).mod(Curve.N);
            signs(x, Curve.ONE, h, r, s);
            signs(x, Curve.N.subtract(Curve.ONE), h, r, s.negate().mod(Curve.N));
        }
    }

    private static void signs(BigInteger x, BigInteger k, BigInteger h, BigInteger r, BigInteger s)
            throws ReflectiveOperationException {
        Desk desk = new Desk();
        desk.put(0, Curve.big(5));
        desk.put(1, k);
        desk.put(2, h);
        desk.put(3, Curve.TOP);
        desk.put(4, Curve.TOP);
        desk.putPoint(0, Curve.lifted(x, true));
        putForG(desk.bench, 0);
        String name = "sign where k G has x " + x.toString(16) + ", k is " + k.toString(16);
        Checks.due(name, desk.bench.sign(3, 4, 0, 1, 2), true);
        Checks.due("r of " + name, desk.number(3), r);
        Checks.due("s of " + name, desk.number(4), s);
    }

    private static void putForG(PointBench bench, int p) throws ReflectiveOperationException {
        Object generator = inside(bench, "generator");
        Object point = ((Object[]) inside(bench, "points"))[p];
        Method copyFrom = point.getClass().getDeclaredMethod("copyFrom", point.getClass());
        copyFrom.setAccessible(true);
        copyFrom.invoke(generator, point);
    }

    private static Object inside(PointBench bench, String name)
            throws ReflectiveOperationException {
        Field field = PointBench.class.getDeclaredField(name);
        field.setAccessible(true);
        return field.get(bench);
    }
}
