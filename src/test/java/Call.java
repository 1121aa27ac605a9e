import java.util.Arrays;

/** A call of the face, to be made on a PointBench and on the model alike. */
final class Call {
    private static final Object NOTHING = "nothing";
    private static final int WORKS = 8;

    /** Every call; the value is what set puts, and if it is odd, so is the y that lift seeks. */
    static final Call[] ALL = {
        new Call("set", (b, i, v) -> {
            b.set(i[0], i[1], v);
            return NOTHING;
        }, (m, i, v) -> {
            m.set(i[0], i[1], v);
            return NOTHING;
        }, Desk.NUMBERS, Desk.PARTS),
        new Call("get", (b, i, v) -> b.get(i[0], i[1]), (m, i, v) -> m.get(i[0], i[1]),
                Desk.NUMBERS, Desk.PARTS),
        new Call("compare", (b, i, v) -> b.compare(i[0], i[1]),
                (m, i, v) -> m.numbers[i[0]].compareTo(m.numbers[i[1]]),
                Desk.NUMBERS, Desk.NUMBERS),
        new Call("work", (b, i, v) -> b.work(i[0], i[1], i[2], i[3]),
                (m, i, v) -> m.work(i[0], i[1], i[2], i[3]),
                WORKS, Desk.NUMBERS, Desk.NUMBERS, Desk.NUMBERS),
        new Call("base", (b, i, v) -> {
            b.base(i[0]);
            return NOTHING;
        }, (m, i, v) -> {
            m.points[i[0]] = Curve.G;
            return NOTHING;
        }, Desk.POINTS),
        new Call("none", (b, i, v) -> {
            b.none(i[0]);
            return NOTHING;
        }, (m, i, v) -> {
            m.points[i[0]] = Curve.NONE;
            return NOTHING;
        }, Desk.POINTS),
        new Call("lay", (b, i, v) -> b.lay(i[0], i[1], i[2]),
                (m, i, v) -> m.lay(i[0], i[1], i[2]),
                Desk.POINTS, Desk.NUMBERS, Desk.NUMBERS),
        new Call("lift", (b, i, v) -> b.lift(i[0], i[1], isOdd(v)),
                (m, i, v) -> m.lift(i[0], i[1], isOdd(v)), Desk.POINTS, Desk.NUMBERS),
        new Call("show", (b, i, v) -> b.show(i[0], i[1], i[2]),
                (m, i, v) -> m.show(i[0], i[1], i[2]),
                Desk.POINTS, Desk.NUMBERS, Desk.NUMBERS),
        new Call("add", (b, i, v) -> {
            b.add(i[0], i[1], i[2]);
            return NOTHING;
        }, (m, i, v) -> {
            m.points[i[0]] = Curve.sum(m.points[i[1]], m.points[i[2]]);
            return NOTHING;
        }, Desk.POINTS, Desk.POINTS, Desk.POINTS),
        new Call("times", (b, i, v) -> {
            b.times(i[0], i[1], i[2]);
            return NOTHING;
        }, (m, i, v) -> {
            m.points[i[0]] = Curve.multiple(m.numbers[i[1]], m.points[i[2]]);
            return NOTHING;
        }, Desk.POINTS, Desk.NUMBERS, Desk.POINTS),
        new Call("same", (b, i, v) -> b.same(i[0], i[1]),
                (m, i, v) -> m.points[i[0]].equals(m.points[i[1]]), Desk.POINTS, Desk.POINTS),
        new Call("sign", (b, i, v) -> b.sign(i[0], i[1], i[2], i[3], i[4]),
                (m, i, v) -> m.sign(i[0], i[1], i[2], i[3], i[4]),
                Desk.NUMBERS, Desk.NUMBERS, Desk.NUMBERS, Desk.NUMBERS, Desk.NUMBERS),
        new Call("verify", (b, i, v) -> b.verify(i[0], i[1], i[2], i[3]),
                (m, i, v) -> m.verify(i[0], i[1], i[2], i[3]),
                Desk.POINTS, Desk.NUMBERS, Desk.NUMBERS, Desk.NUMBERS),
    };

    interface On<T> {
        Object make(T bench, int[] indices, long value);
    }

    final String name;
    final On<PointBench> onBench;
    final On<Model> onModel;
    /** For each index that the call takes, how many there are to choose from. */
    final int[] ranges;

    private Call(String name, On<PointBench> onBench, On<Model> onModel, int... ranges) {
        this.name = name;
        this.onBench = onBench;
        this.onModel = onModel;
        this.ranges = ranges;
    }

    static Call named(String name) {
        for (Call call : ALL) {
            if (call.name.equals(name)) {
                return call;
            }
        }
        throw new IllegalStateException("no call " + name);
    }

    private static boolean isOdd(long value) {
        return (value & 1) != 0;
    }

    String told(int[] indices, long value) {
        return name + Arrays.toString(indices) + " " + value;
    }
}
