/** The example in README.md answers what its remarks say. */
public final class ReadmeTest {
    private static final Due due = new Due("ReadmeTest");

    public static void main(String[] args) {
        OffsetChains x = new OffsetChains();
        due.is("chain(1, 0, 30)", x.chain(1, 0, 30), 20);
        due.is("step(0, 0, 3, 5, 0)", x.step(0, 0, 3, 5, 0), 0);
        due.is("step(0, 1, 4, 5, 2)", x.step(0, 1, 4, 5, 2), 1);
        due.is("step(1, 0, 5, 3, 0)", x.step(1, 0, 5, 3, 0), 0);
        due.is("bound(0, 1)", x.bound(0, 1), 9);
        due.is("run(300)", x.run(300), 40);
        due.is("seen(0, 1, 0)", x.seen(0, 1, 0), 9);
        due.is("bound(0, 2)", x.bound(0, 2), -2);
        due.is("get(0, 1, 0)", x.get(0, 1, 0), Long.MIN_VALUE + 11);
        due.is("count(8)", x.count(8), 1);
        due.end();
    }
}
