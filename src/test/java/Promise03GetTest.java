/** Promise 3: get answers a PART as it is, PART 0 the lowest, and changes nothing. */
public final class Promise03GetTest {
    public static void main(String[] args) {
        partZeroIsTheLowest();
        Desk desk = Desk.filled();
        String before = desk.state();
        desk.bench.get(5, 1);
        Checks.due("the state behind get", desk.state(), before);
        for (int r : Desk.NOT_NUMBERS) {
            Desk.refuses("get(" + r + ", 0)", bench -> bench.get(r, 0));
        }
        for (int part : Desk.NOT_FOUR) {
            Desk.refuses("get(0, " + part + ")", bench -> bench.get(0, part));
        }
        Checks.end();
    }

    private static void partZeroIsTheLowest() {
        PointBench bench = new PointBench();
        bench.base(0);
        bench.show(0, 7, 6);
        Checks.due("PART 0 of G's x", bench.get(7, 0), 0x59F2815B16F81798L);
        Checks.due("PART 1 of G's x", bench.get(7, 1), 0x029BFCDB2DCE28D9L);
        Checks.due("PART 2 of G's x", bench.get(7, 2), 0x55A06295CE870B07L);
        Checks.due("PART 3 of G's x", bench.get(7, 3), 0x79BE667EF9DCBBACL);
        Checks.due("PART 0 of G's y", bench.get(6, 0), 0x9C47D08FFB10D4B8L);
        Checks.due("PART 3 of G's y", bench.get(6, 3), 0x483ADA7726A3C465L);
    }
}
