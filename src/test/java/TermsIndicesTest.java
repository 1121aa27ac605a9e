import java.util.Arrays;

/**
 * Terms: "IllegalArgumentException: a number that is told (of NUMBERS, PARTS, POINTS, what) is out
 * of range." Each index of each call, on both sides of both ends of its range.
 */
public final class TermsIndicesTest {
    private static final int STAGES = 5;
    private static final long VALUE = -77L;

    public static void main(String[] args) {
        for (Call call : Call.ALL) {
            int[] lowest = new int[call.ranges.length];
            int[] highest = new int[call.ranges.length];
            for (int i = 0; i < highest.length; i++) {
                highest[i] = call.ranges[i] - 1;
            }
            for (int at = 0; at < call.ranges.length; at++) {
                oneOutOfRange(call, lowest, at);
                oneOutOfRange(call, highest, at);
                oneAtTheEdge(call, at);
            }
            allOutOfRange(call);
            everyEdge(call, lowest, highest);
        }
        Checks.end();
    }

    /** Empty; ordinary; points of the curve at even NUMBERS, or at odd ones; full to the brim. */
    private static Desk stage(int which) {
        Desk desk = which == 1 ? Desk.filled() : new Desk();
        if (which == 2 || which == 3) {
            for (int r = 0; r < Desk.NUMBERS; r++) {
                desk.put(r, (r + which) % 2 == 0 ? Curve.G.x() : Curve.G.y());
            }
            desk.bench.base(0);
            desk.bench.add(1, 0, 0);
            desk.putPoint(3, Curve.minus(Curve.G));
        }
        if (which == 4) {
            for (int r = 0; r < Desk.NUMBERS; r++) {
                desk.put(r, Curve.TOP);
            }
            desk.bench.base(Desk.POINTS - 1);
        }
        return desk;
    }

    private static void oneOutOfRange(Call call, int[] others, int at) {
        int range = call.ranges[at];
        for (int wrong : new int[] {-1, range, range + 1, -range, Integer.MIN_VALUE,
            Integer.MAX_VALUE}) {
            int[] indices = others.clone();
            indices[at] = wrong;
            refused(call, indices);
        }
    }

    private static void allOutOfRange(Call call) {
        int[] below = new int[call.ranges.length];
        Arrays.fill(below, -1);
        refused(call, below);
        refused(call, call.ranges);
    }

    /** Whatever the call would have answered but for the index. */
    private static void refused(Call call, int[] indices) {
        for (int which = 0; which < STAGES; which++) {
            Desk desk = stage(which);
            String name = call.told(indices, VALUE) + " on stage " + which;
            String before = desk.state();
            Checks.refused(name, () -> call.onBench.make(desk.bench, indices, VALUE));
            Checks.due("the state behind the refused " + name, desk.state(), before);
        }
    }

    private static void oneAtTheEdge(Call call, int at) {
        int range = call.ranges[at];
        for (int right : new int[] {0, 1, range - 2, range - 1}) {
            int[] indices = new int[call.ranges.length];
            for (int i = 0; i < indices.length; i++) {
                indices[i] = (2 + i) % call.ranges[i];
            }
            indices[at] = right;
            asTheModel(call, indices);
        }
    }

    private static void everyEdge(Call call, int[] lowest, int[] highest) {
        for (int choice = 0; choice < 1 << lowest.length; choice++) {
            int[] indices = lowest.clone();
            for (int i = 0; i < indices.length; i++) {
                indices[i] = (choice >> i & 1) != 0 ? highest[i] : lowest[i];
            }
            asTheModel(call, indices);
        }
    }

    /** The right NUMBERS and POINTS are read, and nothing is put but where it belongs. */
    private static void asTheModel(Call call, int[] indices) {
        for (int which = 0; which < STAGES; which++) {
            Desk desk = stage(which);
            Model model = Model.of(desk);
            String name = call.told(indices, VALUE) + " on stage " + which;
            Checks.due(name, call.onBench.make(desk.bench, indices, VALUE),
                    call.onModel.make(model, indices, VALUE));
            Checks.due("the state behind " + name, desk.state(), model.state());
        }
    }
}
