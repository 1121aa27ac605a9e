import java.math.BigInteger;
import java.util.Random;

/** Runs of calls of every kind, each answer and the state at the end held against the model. */
public final class RandomRunsTest {
    private static final int RUNS = 400;
    private static final int CALLS = 40;

    private final Random random;
    private final Desk desk = new Desk();
    private final PointBench bench = desk.bench;
    private final Model model = new Model();
    private final StringBuilder told = new StringBuilder();

    private RandomRunsTest(long seed) {
        random = new Random(seed);
        told.append("run ").append(seed).append(':');
    }

    public static void main(String[] args) {
        for (int seed = 0; seed < RUNS; seed++) {
            new RandomRunsTest(seed).run();
        }
        Checks.end();
    }

    private void run() {
        for (int r = 0; r < Desk.NUMBERS; r++) {
            put(r, Values.any(random));
        }
        for (int i = 0; i < CALLS; i++) {
            call();
        }
        Checks.due("state behind " + told, desk.state(), model.state());
    }

    private void put(int r, BigInteger value) {
        desk.put(r, value);
        model.numbers[r] = value;
    }

    private int number() {
        return random.nextInt(Desk.NUMBERS);
    }

    private int point() {
        return random.nextInt(Desk.POINTS);
    }

    private void tell(String name, int... arguments) {
        told.append(' ').append(name).append(java.util.Arrays.toString(arguments));
    }

    private void due(Object got, Object want) {
        Checks.due(told.toString(), got, want);
    }

    private void call() {
        int r = number();
        int a = number();
        int b = number();
        int p = point();
        int q = point();
        switch (random.nextInt(14)) {
            case 0: setPart(r, random.nextInt(Desk.PARTS)); break;
            case 1:
            case 2:
                int what = random.nextInt(8);
                tell("work", what, r, a, b);
                due(bench.work(what, r, a, b), model.work(what, r, a, b));
                break;
            case 3:
                tell("compare", a, b);
                due(bench.compare(a, b), model.numbers[a].compareTo(model.numbers[b]));
                break;
            case 4:
                tell("lay", p, a, b);
                due(bench.lay(p, a, b), model.lay(p, a, b));
                break;
            case 5:
                boolean odd = random.nextBoolean();
                tell("lift " + odd, p, a);
                due(bench.lift(p, a, odd), model.lift(p, a, odd));
                break;
            case 6:
                tell("show", p, a, b);
                due(bench.show(p, a, b), model.show(p, a, b));
                break;
            case 7: case 8: addPoints(p, q, point()); break;
            case 9: multiply(p, r, q); break;
            case 10:
                tell("same", p, q);
                due(bench.same(p, q), model.points[p].equals(model.points[q]));
                break;
            case 11: fixed(p); break;
            case 12: signAndVerify(r, a, b, p); break;
            default:
                tell("verify", p, r, a, b);
                due(bench.verify(p, r, a, b), model.verify(p, r, a, b));
                break;
        }
    }

    private void setPart(int r, int part) {
        long value = random.nextLong();
        tell("set " + value, r, part);
        bench.set(r, part, value);
        model.set(r, part, value);
        due(bench.get(r, part), value);
    }

    private void addPoints(int p, int a, int b) {
        tell("add", p, a, b);
        bench.add(p, a, b);
        model.points[p] = Curve.sum(model.points[a], model.points[b]);
    }

    private void multiply(int p, int r, int a) {
        tell("times", p, r, a);
        bench.times(p, r, a);
        model.points[p] = Curve.multiple(model.numbers[r], model.points[a]);
    }

    private void fixed(int p) {
        boolean none = random.nextInt(4) == 0;
        tell(none ? "none" : "base", p);
        if (none) {
            bench.none(p);
        } else {
            bench.base(p);
        }
        model.points[p] = none ? Curve.NONE : Curve.G;
    }

    /** Signs with whatever stands there, and asks for the signature with the key of the secret. */
    private void signAndVerify(int secret, int once, int digest, int p) {
        int r = number();
        int s = number();
        tell("base", p);
        bench.base(p);
        model.points[p] = Curve.G;
        multiply(p, secret, p);
        tell("sign", r, s, secret, once, digest);
        due(bench.sign(r, s, secret, once, digest), model.sign(r, s, secret, once, digest));
        tell("verify", p, digest, r, s);
        due(bench.verify(p, digest, r, s), model.verify(p, digest, r, s));
    }
}
