/** Promises 18 to 20: runs, what was seen, what ran when. */
public final class RunsTest {
    private static final Due due = new Due("RunsTest");

    public static void main(String[] args) {
        refusals();
        beforeAny();
        oneStep();
        phaseLagJitter();
        notAheadOfTheOneBefore();
        onNodes();
        stoppedAndLikeOnes();
        earliestFirst();
        borders();
        theStepsOfTheRun();
        due.end();
    }

    private static void ran(String what, OffsetChains x, int node, String told) {
        for (int t = 0; t < told.length(); t++) {
            int step = told.charAt(t) == '.' ? OffsetChains.NONE : told.charAt(t) - '0';
            due.is("20 " + what + ": tick(" + node + ", " + t + ")", x.tick(node, t), step);
        }
    }

    private static void seen(String what, OffsetChains x, int i, int j, int most, int least, int many) {
        due.is("19 greatest " + what, x.seen(i, j, 0), most);
        due.is("19 least " + what, x.seen(i, j, 1), least);
        due.is("19 many " + what, x.seen(i, j, 2), many);
    }

    private static void refusals() {
        OffsetChains x = new OffsetChains();
        x.step(1, 0, 1, 1, 1);
        due.is("18 none", x.run(0), OffsetChains.BAD);
        due.is("18 below", x.run(-1), OffsetChains.BAD);
        due.is("18 above", x.run(301), OffsetChains.BAD);
        due.is("18 far below", x.run(Integer.MIN_VALUE), OffsetChains.BAD);
        due.is("18 far above", x.run(Integer.MAX_VALUE), OffsetChains.BAD);
        due.is("19 what", x.seen(1, 0, 3), OffsetChains.BAD);
        due.is("19 what", x.seen(1, 0, -1), OffsetChains.BAD);
        due.is("19 step", x.seen(1, 1, 0), OffsetChains.BAD);
        due.is("19 step", x.seen(0, 0, 0), OffsetChains.BAD);
        due.is("19 step", x.seen(1, -1, 0), OffsetChains.BAD);
        due.is("19 chain", x.seen(-1, 0, 0), OffsetChains.BAD);
        due.is("19 chain", x.seen(3, 0, 0), OffsetChains.BAD);
        due.is("20 node", x.tick(-1, 0), OffsetChains.BAD);
        due.is("20 node", x.tick(2, 0), OffsetChains.BAD);
        due.is("20 tick", x.tick(0, -1), OffsetChains.BAD);
        due.is("20 tick", x.tick(0, 300), OffsetChains.BAD);
        due.is("20 tick", x.tick(1, 299), OffsetChains.NONE);
    }

    private static void beforeAny() {
        OffsetChains x = new OffsetChains();
        x.step(1, 0, 1, 1, 1);
        seen("before any", x, 1, 0, -1, -1, 0);
        due.is("20 before any", x.tick(0, 0), OffsetChains.NONE);
        due.is("27 before any", x.count(6), 0);
        x.run(20);
        due.is("27 one", x.count(3), 1);
        due.is("18 a refusal", x.run(301), OffsetChains.BAD);
        due.is("27 the run stands", x.count(6), 20);
        seen("the run stands", x, 1, 0, 2, 2, 1);
    }

    private static void oneStep() {
        OffsetChains x = new OffsetChains();
        x.chain(2, 0, 5);
        x.step(2, 1, 3, 0, 0);
        due.is("18 every five", x.run(13), 3);
        ran("every five", x, 1, "666..666..666.");
        ran("nothing on the other", x, 0, "..............");
        seen("every five", x, 2, 0, 3, 3, 3);
        due.is("27 ended", x.count(3), 3);
        due.is("27 node 0 idle", x.count(4), 13);
        due.is("27 node 1 idle", x.count(5), 4);
        due.is("27 ticks", x.count(6), 13);
        due.is("18 just not done", x.run(12), 2);
        ran("the ticks behind are none", x, 1, "666..666..66........");
        seen("just not done", x, 2, 0, 3, 3, 2);
        due.is("18 none ended", x.run(2), 0);
        seen("none ended", x, 2, 0, -1, -1, 0);
        due.is("18 no steps at all", new OffsetChains().run(300), 0);
    }

    private static void phaseLagJitter() {
        OffsetChains x = new OffsetChains();
        x.chain(0, 0, 10);
        x.chain(0, 1, 4);
        x.chain(0, 3, 3);
        x.chain(0, 4, 2);
        x.step(0, 0, 2, 0, 1);
        // Released at 3, 13, 23, 33; ready 1 and 0, 2, 4, 1 (6 modulo 5) behind that.
        due.is("18 stride", x.run(40), 4);
        ran("stride", x, 0, "....00..........00..........00.....00...");
        seen("stride, from the release on", x, 0, 0, 7, 3, 4);
        x.chain(0, 1, 0);
        x.run(40);
        ran("no jitter, no stride", x, 0, "....00........00........00........00....");
        x.chain(0, 3, 39);
        due.is("18 late phase", x.run(40), 0);
        x.chain(0, 3, 0);
        due.is("18 no phase", x.run(40), 4);
        ran("no phase", x, 0, ".00........00........00........00.......");
        seen("no phase", x, 0, 0, 3, 3, 4);
    }

    private static void notAheadOfTheOneBefore() {
        OffsetChains x = new OffsetChains();
        x.chain(0, 0, 5);
        x.chain(0, 1, 8);
        x.chain(0, 4, 8);
        x.step(0, 0, 1, 0, 0);
        // Ready by themselves at 0, 13, 17, 21, 25, 29, 33, 37, 41 (8 times n modulo 9 is 0, 8, 7, 6, ..), 45, 58.
        due.is("18 in order", x.run(46), 10);
        ran("in order", x, 0, "0............0...0...0...0...0...0...0...0...0");
        x.chain(0, 1, 30);
        x.chain(0, 4, 9);
        // 0, 14, 28, 42; then 25 and 39, not ahead of 42; 53; then 36 and 50, not ahead of 53; 64.
        due.is("18 three at once", x.run(60), 9);
        ran("three at once", x, 0, "0.............0.............0.............000........000....");
        seen("three at once", x, 0, 0, 28, 1, 9);
    }

    private static void onNodes() {
        OffsetChains x = new OffsetChains();
        x.chain(0, 0, 30);
        x.step(0, 0, 2, 5, 1);
        x.step(0, 1, 3, 5, 0);
        x.step(0, 0, 1, 5, 2);
        due.is("18 across nodes", x.run(30), 3);
        ran("across nodes", x, 0, ".00.....2.....................");
        ran("across nodes", x, 1, "...111........................");
        seen("the first", x, 0, 0, 3, 3, 1);
        seen("the second", x, 0, 1, 6, 6, 1);
        seen("the third", x, 0, 2, 9, 9, 1);
        due.is("27 node 0 idle", x.count(4), 27);
        due.is("27 node 1 idle", x.count(5), 27);
        due.is("18 ends with the last tick", x.run(9), 3);
        due.is("18 a tick less", x.run(8), 2);
    }

    private static void stoppedAndLikeOnes() {
        OffsetChains x = new OffsetChains();
        x.chain(0, 0, 20);
        x.chain(1, 0, 10);
        x.chain(2, 0, 20);
        x.chain(1, 3, 2);
        x.step(0, 0, 6, 3, 0);
        x.step(1, 0, 3, 4, 0);
        x.step(2, 0, 2, 3, 0);
        due.is("18 stopped", x.run(20), 4);
        ran("stopped by the more urgent; of like ones the least number", x, 0, "00333000066.333.....");
        seen("stopped", x, 0, 0, 9, 9, 1);
        x.tune(2, 0, 2, 4);
        x.run(20);
        ran("of like ones the least number", x, 0, "66333000000.333.....");
        x.chain(1, 3, 1);
        x.run(20);
        ran("it stops the like one that has begun", x, 0, "63336000000333......");
    }

    private static void earliestFirst() {
        OffsetChains x = new OffsetChains();
        x.chain(0, 0, 5);
        x.chain(1, 0, 40);
        x.step(0, 0, 2, 1, 0);
        x.step(0, 1, 1, 1, 3);
        x.step(1, 0, 11, 9, 0);
        due.is("18 they pile up", x.run(24), 10);
        ran("they pile up", x, 0, "3333333333300000000.00..");
        ran("they pile up", x, 1, "................1.1.1.1.");
        seen("the first waits longest", x, 0, 0, 13, 2, 5);
        due.is("19 the first of all", x.seen(0, 1, 0), 17);
    }

    private static void borders() {
        OffsetChains x = new OffsetChains();
        for (int i = 0; i < 3; i++) {
            x.chain(i, 0, 5);
        }
        x.step(0, 0, 1, 9, 0);
        x.step(0, 1, 1, 9, 0);
        x.step(0, 0, 1, 9, 0);
        due.is("18 as long as may be", x.run(300), 180);
        seen("as often as may be", x, 0, 2, 3, 3, 60);
        due.is("20 the last tick", x.tick(0, 297), 2);
        due.is("20 the last tick", x.tick(0, 299), OffsetChains.NONE);
        due.is("18 one tick", x.run(1), 1);
        due.is("20 the tick behind", x.tick(0, 2), OffsetChains.NONE);
        x.tune(0, 0, 1, 20);
        // The third never comes; the second of the last first would come at 300.
        due.is("18 too much", x.run(300), 15 + 14);
        due.is("27 never idle", x.count(4), 0);
        seen("ever later", x, 0, 0, 300 - 14 * 5, 20, 15);
        x.chain(0, 3, 99);
        due.is("18 from 99 on", x.run(119), 1);
    }

    private static void theStepsOfTheRun() {
        OffsetChains x = new OffsetChains();
        x.step(0, 0, 2, 9, 0);
        x.step(0, 1, 3, 9, 0);
        x.run(20);
        x.back(0);
        due.is("19 gone", x.seen(0, 1, 0), OffsetChains.BAD);
        due.is("20 what ran stays", x.tick(1, 3), 1);
        x.tune(0, 0, 1, 7);
        x.chain(0, 0, 50);
        seen("what was seen stays", x, 0, 0, 2, 2, 1);
        x.step(0, 0, 9, 9, 9);
        x.step(0, 0, 9, 9, 9);
        seen("the one that had the number", x, 0, 1, 5, 5, 1);
        seen("none had the number", x, 0, 2, -1, -1, 0);
        due.is("27 ended", x.count(3), 2);
    }
}
