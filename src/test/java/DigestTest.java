/** Promise 28: the digest, told once more from what the other calls answer. */
public final class DigestTest {
    private static final Due due = new Due("DigestTest");

    public static void main(String[] args) {
        OffsetChains x = new OffsetChains();
        due.is("28 new", x.digest(), again(x));
        x.chain(0, 1, 9);
        x.chain(0, 0, 40);
        x.chain(1, 2, 60);
        x.chain(1, 0, 35);
        x.chain(2, 3, 12);
        x.chain(2, 4, 3);
        x.step(0, 0, 3, 4, 5);
        x.step(0, 1, 2, 4, 1);
        x.step(1, 1, 4, 2, 0);
        x.step(1, 0, 2, 3, 2);
        x.step(1, 0, 1, 9, 2);
        x.step(2, 0, 1, 4, 0);
        due.is("28 settled", x.count(1), 1);
        due.is("28 before a run", x.digest(), again(x));
        x.run(45);
        due.is("28 a run of 45", x.digest(), again(x));
        x.run(300);
        due.is("28 a run of 300", x.digest(), again(x));
        long settled = x.digest();
        due.is("28 asking changes nothing", x.digest(), settled);
        x.lose(0);
        due.is("28 a finding is not in it", x.digest(), settled);
        x.sheet(0, 1, 5);
        due.is("28 nor a sheet", x.digest(), settled);
        x.chain(2, 0, 5);
        x.tune(2, 0, 1, 9);
        due.is("28 not settled", x.count(1), 0);
        due.is("28 not settled", x.digest(), again(x));
        due.is("28 it is another", x.digest() != settled ? 1 : 0, 1);
        x.back(1);
        due.is("28 a step less", x.digest(), again(x));
        due.end();
    }

    private static long again(OffsetChains x) {
        long h = 17;
        for (int what = 0; what <= 7; what++) {
            h = h * 31 + x.count(what);
        }
        h = h * 31 + x.rounds();
        h = h * 31 + x.meets();
        for (int i = 0; i < 3; i++) {
            for (int what = 0; what <= 5; what++) {
                h = h * 31 + x.has(i, what);
            }
        }
        for (int i = 0; i < 3; i++) {
            for (int j = 0; j < x.has(i, 5); j++) {
                for (int what = 0; what <= 6; what++) {
                    h = h * 31 + x.info(i, j, what);
                }
                h = h * 31 + x.load(i, j, 0);
                h = h * 31 + x.load(i, j, 1);
                h = h * 31 + x.bound(i, j);
                h = h * 31 + x.searched(i, j);
                h = h * 31 + x.quick(i, j);
                for (int what = 0; what <= 2; what++) {
                    h = h * 31 + x.worst(i, j, what);
                }
                for (int what = 0; what <= 2; what++) {
                    h = h * 31 + x.seen(i, j, what);
                }
            }
        }
        for (int t = 0; t < 60; t++) {
            h = h * 31 + x.tick(0, t);
            h = h * 31 + x.tick(1, t);
        }
        return h;
    }
}
