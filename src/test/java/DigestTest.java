import java.math.BigInteger;

/**
 * Promise 28: the digest, told once more from what the other calls answer. The remark ahead of a test says which
 * sentence it holds. An object is used for 512 calls at most, so the other calls are those of a twin.
 */
public final class DigestTest {
    private static final Due due = new Due("DigestTest");
    private static final BigInteger WRAP = BigInteger.ONE.shiftLeft(64);

    private interface Calls {
        void on(OffsetChains x);
    }

    private BigInteger h = BigInteger.valueOf(17);

    public static void main(String[] args) {
        ofANewObject();
        ofSomeSteps();
        ofNineSteps();
        ofTicks0To59();
        notSettled();
        ofWhatWasSeen();
        itWraps();
        nothingElse();
        due.end();
    }

    /** Both do the same calls; of one of them the digest is asked. */
    private static void digest(String what, Calls calls) {
        OffsetChains x = new OffsetChains();
        OffsetChains twin = new OffsetChains();
        calls.on(x);
        calls.on(twin);
        DigestTest told = new DigestTest();
        told.all(twin);
        due.is(what, x.digest(), told.h.longValue());
        due.is(what + ", asked again", x.digest(), told.h.longValue());
    }

    private void with(long v) {
        h = h.multiply(BigInteger.valueOf(31)).add(BigInteger.valueOf(v)).mod(WRAP);
    }

    private void all(OffsetChains x) {
        for (int what = 0; what <= 7; what++) {
            with(x.count(what));
        }
        with(x.rounds());
        with(x.meets());
        for (int i = 0; i < 3; i++) {
            for (int what = 0; what <= 5; what++) {
                with(x.has(i, what));
            }
        }
        for (int i = 0; i < 3; i++) {
            int steps = x.has(i, 5);
            for (int j = 0; j < steps; j++) {
                step(x, i, j);
            }
        }
        for (int t = 0; t <= 59; t++) {
            with(x.tick(0, t));
            with(x.tick(1, t));
        }
    }

    private void step(OffsetChains x, int i, int j) {
        for (int what = 0; what <= 6; what++) {
            with(x.info(i, j, what));
        }
        with(x.load(i, j, 0));
        with(x.load(i, j, 1));
        with(x.bound(i, j));
        with(x.searched(i, j));
        with(x.quick(i, j));
        for (int what = 0; what <= 2; what++) {
            with(x.worst(i, j, what));
        }
        for (int what = 0; what <= 2; what++) {
            with(x.seen(i, j, what));
        }
    }

    private static void sixSteps(OffsetChains x) {
        x.chain(0, 1, 9);
        x.chain(0, 0, 40);
        x.chain(1, 2, 60);
        x.chain(1, 0, 35);
        x.chain(2, 3, 12);
        x.chain(2, 4, 3);
        x.step(0, 0, 3, 4, 5);
        x.step(0, 1, 2, 4, 1);
        x.step(1, 1, 4, 2, 0);
        x.step(1, 0, 2, 3, 2);
        x.step(1, 0, 1, 9, 2);
        x.step(2, 0, 1, 4, 0);
    }

    private static void nineSteps(OffsetChains x) {
        for (int i = 0; i < 3; i++) {
            x.chain(i, 0, 100 - i);
            x.chain(i, 2, 100 + 50 * i);
            for (int j = 0; j < 3; j++) {
                x.step(i, (i + j) % 2, 2 + i + j, 4 + j, i);
            }
        }
    }

    // Promise 28: "h is 17; h becomes 31 h and each of": of nothing but count() 1, rounds(), PERIODS, and no TICKS.
    private static void ofANewObject() {
        digest("new", x -> { });
    }

    // Promise 28: "of STEPS, by numbers": those that there are, before a run and behind it.
    private static void ofSomeSteps() {
        digest("before a run", DigestTest::sixSteps);
        digest("behind a run", x -> {
            sixSteps(x);
            x.run(300);
        });
        digest("the last gone", x -> {
            sixSteps(x);
            x.run(300);
            x.back(2);
        });
    }

    // Promise 28: "of STEPS, by numbers, .. ": as many as may be.
    private static void ofNineSteps() {
        digest("nine, before a run", DigestTest::nineSteps);
        digest("nine, behind a run", x -> {
            nineSteps(x);
            x.run(300);
        });
    }

    // Promise 28: "of TICKS 0 to 59 tick(0, it), tick(1, it)": of runs that are shorter, as long, longer.
    private static void ofTicks0To59() {
        for (int told : new int[] {1, 58, 59, 60, 61, 62, 300}) {
            int h = told;
            digest("a run of " + h, x -> {
                x.chain(0, 0, 5);
                x.chain(1, 0, 5);
                x.step(0, 0, 5, 5, 0);
                x.step(1, 1, 5, 5, 0);
                x.run(h);
            });
        }
    }

    // Promise 28: "info() 0 to 6, .. bound(), searched(), quick(), worst() 0 to 2": each of them NONE.
    private static void notSettled() {
        digest("not settled", x -> {
            sixSteps(x);
            x.run(45);
            x.chain(2, 0, 5);
            x.tune(2, 0, 1, 9);
        });
        digest("no QUICK", x -> {
            x.step(0, 0, 11, 5, 0);
            x.step(0, 0, 9, 5, 10);
        });
    }

    // Promise 28: "seen() 0 to 2": of steps that came behind the run, of those that did not end in it.
    private static void ofWhatWasSeen() {
        digest("not all have ended", x -> {
            sixSteps(x);
            x.run(8);
        });
        digest("others had the numbers", x -> {
            sixSteps(x);
            x.run(45);
            x.back(1);
            x.back(1);
            x.step(1, 1, 9, 9, 9);
            x.step(0, 0, 1, 0, 0);
        });
    }

    // Promise 28: "as longs that wrap": 31 to the 13th is above what a long can be, so each digest does.
    private static void itWraps() {
        OffsetChains x = new OffsetChains();
        BigInteger whole = BigInteger.valueOf(17);
        int[] counts = {0, 1, 0, 0, 0, 0, 0, 0, 1, 0};
        int[] chain = {20, 0, 0, 0, 0, 0};
        for (int v : counts) {
            whole = whole.multiply(BigInteger.valueOf(31)).add(BigInteger.valueOf(v));
        }
        for (int a = 0; a < 18; a++) {
            whole = whole.multiply(BigInteger.valueOf(31)).add(BigInteger.valueOf(chain[a % 6]));
        }
        for (int a = 0; a < 120; a++) {
            whole = whole.multiply(BigInteger.valueOf(31)).subtract(BigInteger.ONE);
        }
        due.is("above a long", whole.bitLength() > 64 ? 1 : 0, 1);
        due.is("its lowest 64 bits", x.digest(), whole.longValue());
    }

    // Promise 28: "count() 0 to 7", and what is told there alone: no FINDING, nothing that is on a SHEET, no question.
    private static void nothingElse() {
        OffsetChains x = new OffsetChains();
        sixSteps(x);
        x.run(300);
        long digest = x.digest();
        x.lose(0);
        due.is("a finding", x.digest(), digest);
        x.sheet(0, 1, 5);
        x.lay(0, 1, 1, 7);
        x.write(0);
        due.is("a sheet", x.digest(), digest);
        x.margin(0, 0);
        x.better(0, 0, 0);
        x.searched(1, 1);
        x.quick(1, 1);
        due.is("a question", x.digest(), digest);
        x.chain(0, 1, 10);
        due.is("a change", x.digest() != digest ? 1 : 0, 1);
        x.chain(0, 1, 9);
        due.is("as it was", x.digest(), digest);
    }
}
