/** The example of README.md, line by line, does what README.md says. */
public final class ReadmeExampleTest {
    public static void main(String[] args) {
        PointBench bench = new PointBench();
        bench.set(0, 0, 12345L);
        bench.set(1, 0, 678L);
        bench.set(2, 3, 0x1122334455667788L);
        Checks.due("sign", bench.sign(3, 4, 0, 1, 2), true);
        bench.base(0);
        bench.times(1, 0, 0);
        Checks.due("verify", bench.verify(1, 2, 3, 4), true);
        bench.set(2, 0, 1L);
        Checks.due("verify of another digest", bench.verify(1, 2, 3, 4), false);
        Checks.end();
    }
}
