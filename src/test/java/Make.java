/** What the tests make again and again: objects of the program, and numbers outside a border. */
final class Make {
    private Make() {
    }

    /** Of each chain PERIOD and JITTER, then of each of its steps NODE, COST, PRIORITY, LAG. */
    static OffsetChains with(int[]... chains) {
        OffsetChains x = new OffsetChains();
        for (int i = 0; i < chains.length; i++) {
            x.chain(i, 0, chains[i][0]);
            x.chain(i, 1, chains[i][1]);
            for (int a = 2; a + 3 < chains[i].length; a += 4) {
                x.step(i, chains[i][a], chains[i][a + 1], chains[i][a + 2], chains[i][a + 3]);
            }
        }
        return x;
    }

    /** Just outside what is told, and as far outside as can be. */
    static int[] outside(int least, int most) {
        return new int[] {least - 1, most + 1, Integer.MIN_VALUE, Integer.MAX_VALUE};
    }

    /** A sheet of a form with these items; each of them must be one that lay() can put there. */
    static void sheet(OffsetChains x, int s, int form, int... items) {
        x.sheet(s, form, items.length);
        for (int a = 0; a < items.length; a++) {
            x.lay(s, form, a, items[a]);
        }
    }
}
