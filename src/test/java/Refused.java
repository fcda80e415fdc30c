/**
 * A call that is refused: its answer, and that it changes nothing, but count(8) by a FINDING. Two objects have the same
 * calls behind them, and on one of them the refused call is made; from then on both must answer alike.
 */
final class Refused {
    interface Call {
        long on(OffsetChains x);
    }

    private static final int STORE = 4, SIZE = 5;

    private final Due due;

    Refused(Due due) {
        this.due = due;
    }

    /** The want is an answer of an int, or of a long, which is the least long and as much more. */
    void is(String call, Call refused, long want) {
        int number = (int) (want < Integer.MIN_VALUE ? want - Long.MIN_VALUE : -want);
        int finding = number > 10 ? number - 10 : 0;
        int before = finding == SIZE ? STORE : SIZE;
        OffsetChains x = made(before);
        OffsetChains twin = made(before);
        due.is(call, refused.on(x), want);
        due.is(call + ", then count(8)", x.count(8), finding == 0 ? before : finding);
        long[] are = answers(x);
        long[] were = answers(twin);
        int unlike = 0;
        for (int a = 0; a < are.length; a++) {
            if (are[a] != were[a]) {
                unlike++;
            }
        }
        due.is(call + ", then how many answers have changed", unlike, 0);
    }

    /**
     * Chain 0 is full, chain 1 has one step, chain 2 none; sheet 0 is of 3 shorts, 1 of 5 ints, 2 of 2 longs, 3 was of
     * 4 ints, and is LOST; a run is done.
     */
    private static OffsetChains made(int finding) {
        OffsetChains x = Make.with(new int[] {50, 3, 0, 3, 5, 1, 1, 4, 5, 2, 0, 2, 1, 0},
                new int[] {40, 0, 0, 5, 3, 0});
        x.chain(0, 2, 60);
        x.chain(1, 2, 150);
        x.chain(1, 3, 7);
        x.chain(0, 4, 2);
        x.run(120);
        Make.sheet(x, 0, 0, 7, -8, 9);
        Make.sheet(x, 1, 1, 0, 6, 2, 3, 1);
        Make.sheet(x, 2, 2, 5, 0);
        Make.sheet(x, 3, 1, 1, 2, 3, 4);
        x.lose(3);
        if (finding == SIZE) {
            x.sheet(0, 0, -1);
        } else {
            x.copy(0, 0, 1, 0, 1);
        }
        return x;
    }

    private static long[] answers(OffsetChains x) {
        long[] all = new long[141];
        int a = 0;
        all[a++] = x.digest();
        all[a++] = x.margin(0, 1);
        all[a++] = x.better(0, 2, 0);
        all[a++] = x.better(0, 2, 1);
        for (int t = 60; t < 120; t++) {
            all[a++] = x.tick(0, t);
            all[a++] = x.tick(1, t);
        }
        int[] items = {3, 5, 2};
        for (int s = 0; s < 3; s++) {
            for (int item = 0; item <= items[s]; item++) {
                all[a++] = x.get(s, s, item);
            }
        }
        all[a++] = x.get(3, 1, 0);
        all[a++] = x.has(0, 5);
        all[a++] = x.has(1, 5);
        all[a] = x.has(2, 5);
        return all;
    }
}
