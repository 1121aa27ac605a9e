/** Promise 2: set puts one PART of one NUMBER and nothing else. */
public final class Promise02SetTest {
    private static final long[] VALUES = {1L, -1L, Long.MIN_VALUE, Long.MAX_VALUE, 0L};

    public static void main(String[] args) {
        setsOnePart();
        laterValuesReplaceEarlierOnes();
        for (int r : Desk.NOT_NUMBERS) {
            Desk.refuses("set(" + r + ", 0, 5)", bench -> bench.set(r, 0, 5L));
        }
        for (int part : Desk.NOT_FOUR) {
            Desk.refuses("set(0, " + part + ", 5)", bench -> bench.set(0, part, 5L));
        }
        Desk.refuses("set(8, 4, 5)", bench -> bench.set(8, 4, 5L));
        Checks.end();
    }

    private static void setsOnePart() {
        for (int r = 0; r < Desk.NUMBERS; r++) {
            for (int part = 0; part < Desk.PARTS; part++) {
                Desk desk = new Desk();
                desk.bench.set(r, part, 77L);
                for (int i = 0; i < Desk.NUMBERS * Desk.PARTS; i++) {
                    long due = i == r * Desk.PARTS + part ? 77L : 0L;
                    Checks.due("get " + i + " behind set(" + r + ", " + part + ", 77)",
                            desk.bench.get(i / Desk.PARTS, i % Desk.PARTS), due);
                }
            }
        }
    }

    private static void laterValuesReplaceEarlierOnes() {
        PointBench bench = new PointBench();
        for (long value : VALUES) {
            bench.set(3, 2, value);
            Checks.due("get(3, 2) behind set to " + value, bench.get(3, 2), value);
        }
    }
}
