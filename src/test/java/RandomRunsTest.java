import java.math.BigInteger;
import java.util.Random;

/** Runs of calls of every kind, each answer and the state at the end held against the model. */
public final class RandomRunsTest {
    private static final int RUNS = 250;
    private static final int CALLS = 40;

    private final Random random;
    private final Desk desk = new Desk();
    private final Model model = new Model();
    private final StringBuilder told = new StringBuilder();

    private RandomRunsTest(long seed) {
        random = new Random(seed);
        told.append("run ").append(seed).append(':');
    }

    public static void main(String[] args) {
        for (int seed = 0; seed < RUNS; seed++) {
            new RandomRunsTest(seed).run();
        }
        Checks.end();
    }

    private void run() {
        for (int r = 0; r < Desk.NUMBERS; r++) {
            BigInteger value = Values.any(random);
            desk.put(r, value);
            model.numbers[r] = value;
        }
        for (int i = 0; i < CALLS; i++) {
            if (random.nextInt(14) == 0) {
                signAndVerify();
            } else {
                any(Call.ALL[random.nextInt(Call.ALL.length)]);
            }
        }
        Checks.due("state behind " + told, desk.state(), model.state());
    }

    private void any(Call call) {
        int[] indices = new int[call.ranges.length];
        for (int i = 0; i < indices.length; i++) {
            indices[i] = random.nextInt(call.ranges[i]);
        }
        make(call, indices);
    }

    private void make(Call call, int... indices) {
        long value = random.nextLong();
        told.append(' ').append(call.told(indices, value));
        Checks.due(told.toString(), call.onBench.make(desk.bench, indices, value),
                call.onModel.make(model, indices, value));
    }

    /** Signs with whatever stands there, and asks for the signature with the key of the secret. */
    private void signAndVerify() {
        int p = random.nextInt(Desk.POINTS);
        int secret = random.nextInt(Desk.NUMBERS);
        int digest = random.nextInt(Desk.NUMBERS);
        int r = random.nextInt(Desk.NUMBERS);
        int s = random.nextInt(Desk.NUMBERS);
        make(Call.named("base"), p);
        make(Call.named("times"), p, secret, p);
        make(Call.named("sign"), r, s, secret, random.nextInt(Desk.NUMBERS), digest);
        make(Call.named("verify"), p, digest, r, s);
    }
}
