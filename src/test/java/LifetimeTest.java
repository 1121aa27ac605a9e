import java.math.BigInteger;
import java.util.Random;

/** "An object is used for at most 512 calls after it has been made": all of them, to the last. */
public final class LifetimeTest {
    private static final int CALLS = 512;
    /** What it takes to show the POINTS and to get the NUMBERS. */
    private static final int LAST = Desk.POINTS + Desk.NUMBERS * Desk.PARTS;

    private final Random random;
    private final PointBench bench = new PointBench();
    private final Model model = new Model();
    private int made = 0;

    private LifetimeTest(long seed) {
        random = new Random(seed);
    }

    public static void main(String[] args) {
        for (int seed = 0; seed < 3; seed++) {
            new LifetimeTest(seed).callsOfEveryKind();
        }
        for (Call call : Call.ALL) {
            new LifetimeTest(99).callsOfOneKind(call);
        }
        new LifetimeTest(100).refusedCalls();
        Checks.end();
    }

    private void callsOfEveryKind() {
        someNumbers();
        while (made < CALLS - LAST) {
            any(Call.ALL[random.nextInt(Call.ALL.length)]);
        }
        lastCalls();
    }

    private void callsOfOneKind(Call call) {
        someNumbers();
        make(Call.named("base"), 0, 0);
        make(Call.named("add"), 0, 1, 0, 0);
        while (made < CALLS - LAST) {
            any(call);
        }
        lastCalls();
    }

    private void refusedCalls() {
        someNumbers();
        make(Call.named("base"), 0, 2);
        while (made < CALLS - LAST) {
            Call call = Call.ALL[made % Call.ALL.length];
            made++;
            Checks.refused(call.name + ", call " + made,
                    () -> call.onBench.make(bench, call.ranges, 1L));
        }
        lastCalls();
    }

    private void someNumbers() {
        for (int r = 0; r < Desk.NUMBERS; r++) {
            BigInteger value = Values.any(random);
            for (int part = 0; part < Desk.PARTS; part++) {
                make(Call.named("set"), value.shiftRight(64 * part).longValue(), r, part);
            }
        }
    }

    private void any(Call call) {
        int[] indices = new int[call.ranges.length];
        for (int i = 0; i < indices.length; i++) {
            indices[i] = random.nextInt(call.ranges[i]);
        }
        make(call, random.nextLong(), indices);
    }

    private void make(Call call, long value, int... indices) {
        made++;
        Checks.due(call.told(indices, value) + ", call " + made,
                call.onBench.make(bench, indices, value), call.onModel.make(model, indices, value));
    }

    private void lastCalls() {
        for (int p = 0; p < Desk.POINTS; p++) {
            make(Call.named("show"), 0, p, 2 * p, 2 * p + 1);
        }
        for (int i = 0; i < Desk.NUMBERS * Desk.PARTS; i++) {
            make(Call.named("get"), 0, i / Desk.PARTS, i % Desk.PARTS);
        }
        Checks.due("the calls that were made", made, CALLS);
    }
}
