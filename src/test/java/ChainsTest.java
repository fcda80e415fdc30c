/** Promises 1 to 9: a new object, chains and their steps. */
public final class ChainsTest {
    private static final Due due = new Due("ChainsTest");
    private static final int LOW = Integer.MIN_VALUE, HIGH = Integer.MAX_VALUE;

    public static void main(String[] args) {
        newObject();
        chain();
        step();
        back();
        tune();
        readSteps();
        readUntilOneIsNotAsToldAndOfLongs();
        has();
        info();
        load();
        due.end();
    }

    private static void newObject() {
        OffsetChains x = new OffsetChains();
        int[] first = {20, 0, 0, 0, 0, 0};
        for (int i = 0; i < 3; i++) {
            for (int what = 0; what < 6; what++) {
                due.is("1 has(" + i + ", " + what + ")", x.has(i, what), first[what]);
            }
            due.is("1 back", x.back(i), OffsetChains.NOT);
        }
        int[] counts = {0, 1, 0, 0, 0, 0, 0, 0, 0};
        for (int what = 0; what < 9; what++) {
            due.is("1 count(" + what + ")", x.count(what), counts[what]);
        }
        due.is("1 rounds", x.rounds(), 1);
        due.is("1 meets", x.meets(), 0);
        due.is("1 tick", x.tick(0, 0), OffsetChains.NONE);
        due.is("1 tick", x.tick(1, 299), OffsetChains.NONE);
        for (int s = 0; s < 4; s++) {
            due.is("1 lose", x.lose(s), -11);
        }
    }

    private static void chain() {
        int[] least = {5, 0, 0, 0, 0};
        int[] most = {100, 30, 200, 99, 9};
        OffsetChains x = new OffsetChains();
        for (int i = 0; i < 3; i++) {
            for (int what = 0; what < 5; what++) {
                int first = what == 0 ? 20 : 0;
                due.is("2 below", x.chain(i, what, least[what] - 1), OffsetChains.BAD);
                due.is("2 above", x.chain(i, what, most[what] + 1), OffsetChains.BAD);
                due.is("2 far below", x.chain(i, what, LOW), OffsetChains.BAD);
                due.is("2 far above", x.chain(i, what, HIGH), OffsetChains.BAD);
                due.is("2 nothing changed", x.has(i, what), first);
                due.is("2 least", x.chain(i, what, least[what]), first);
                due.is("2 most", x.chain(i, what, most[what]), least[what]);
                due.is("2 like it", x.chain(i, what, most[what]), most[what]);
                due.is("2 it is", x.has(i, what), most[what]);
                for (int other = i + 1; other < 3; other++) {
                    due.is("2 not the others", x.has(other, what), first);
                }
            }
            due.is("2 what", x.chain(i, -1, 10), OffsetChains.BAD);
            due.is("2 what", x.chain(i, 5, 1), OffsetChains.BAD);
            due.is("2 what", x.chain(i, LOW, 10), OffsetChains.BAD);
        }
        due.is("2 chain", x.chain(-1, 0, 10), OffsetChains.BAD);
        due.is("2 chain", x.chain(3, 0, 10), OffsetChains.BAD);
        due.is("2 chain", x.chain(HIGH, 0, 10), OffsetChains.BAD);
    }

    private static void step() {
        OffsetChains x = new OffsetChains();
        due.is("3 chain", x.step(-1, 0, 1, 0, 0), OffsetChains.BAD);
        due.is("3 chain", x.step(3, 0, 1, 0, 0), OffsetChains.BAD);
        stepRefusals(x);
        due.is("3 none", x.has(1, 5), 0);
        due.is("3 the least", x.step(1, 0, 1, 0, 0), 0);
        due.is("3 the most", x.step(1, 1, 20, 9, 20), 1);
        due.is("3 the third", x.step(1, 1, 5, 6, 7), 2);
        due.is("3 a fourth", x.step(1, 1, 5, 6, 7), OffsetChains.FULL);
        stepRefusals(x);
        due.is("3 many", x.has(1, 5), 3);
        due.is("3 other chain", x.step(2, 1, 5, 6, 7), 0);
        due.is("3 count", x.count(0), 4);
        int[][] told = {{0, 1, 0, 0}, {1, 20, 9, 20}, {1, 5, 6, 7}};
        for (int j = 0; j < 3; j++) {
            for (int what = 0; what < 4; what++) {
                due.is("3 info(1, " + j + ", " + what + ")", x.info(1, j, what), told[j][what]);
            }
        }
    }

    private static void stepRefusals(OffsetChains x) {
        due.is("3 node", x.step(1, -1, 1, 0, 0), OffsetChains.BAD);
        due.is("3 node", x.step(1, 2, 1, 0, 0), OffsetChains.BAD);
        due.is("3 cost", x.step(1, 0, 0, 0, 0), OffsetChains.BAD);
        due.is("3 cost", x.step(1, 0, 21, 0, 0), OffsetChains.BAD);
        due.is("3 priority", x.step(1, 0, 1, -1, 0), OffsetChains.BAD);
        due.is("3 priority", x.step(1, 0, 1, 10, 0), OffsetChains.BAD);
        due.is("3 lag", x.step(1, 0, 1, 0, -1), OffsetChains.BAD);
        due.is("3 lag", x.step(1, 0, 1, 0, 21), OffsetChains.BAD);
    }

    private static void back() {
        OffsetChains x = new OffsetChains();
        x.step(0, 0, 1, 1, 1);
        x.step(0, 1, 2, 2, 2);
        x.step(1, 1, 3, 3, 3);
        due.is("4 chain", x.back(-1), OffsetChains.BAD);
        due.is("4 chain", x.back(3), OffsetChains.BAD);
        due.is("4 none", x.back(2), OffsetChains.NOT);
        due.is("4 one left", x.back(0), 1);
        due.is("4 the last is gone", x.info(0, 1, 1), OffsetChains.BAD);
        due.is("4 the first is not", x.info(0, 0, 1), 1);
        due.is("4 none left", x.back(0), 0);
        due.is("4 no more", x.back(0), OffsetChains.NOT);
        due.is("4 other chain", x.has(1, 5), 1);
        due.is("4 again", x.step(0, 0, 7, 1, 1), 0);
        due.is("4 again", x.info(0, 0, 1), 7);
    }

    private static void tune() {
        int[] least = {0, 1, 0, 0};
        int[] most = {1, 20, 9, 20};
        OffsetChains x = new OffsetChains();
        x.step(1, 1, 10, 5, 6);
        x.step(1, 0, 11, 4, 3);
        int[] first = {0, 11, 4, 3};
        for (int what = 0; what < 4; what++) {
            due.is("5 below", x.tune(1, 1, what, least[what] - 1), OffsetChains.BAD);
            due.is("5 above", x.tune(1, 1, what, most[what] + 1), OffsetChains.BAD);
            due.is("5 was", x.tune(1, 1, what, least[what]), first[what]);
            due.is("5 was", x.tune(1, 1, what, most[what]), least[what]);
            due.is("5 is", x.info(1, 1, what), most[what]);
        }
        due.is("5 not the other", x.info(1, 0, 1), 10);
        due.is("5 what", x.tune(1, 1, 4, 1), OffsetChains.BAD);
        due.is("5 what", x.tune(1, 1, -1, 1), OffsetChains.BAD);
        due.is("5 step", x.tune(1, 2, 0, 1), OffsetChains.BAD);
        due.is("5 step", x.tune(1, -1, 0, 1), OffsetChains.BAD);
        due.is("5 step", x.tune(0, 0, 0, 1), OffsetChains.BAD);
        due.is("5 chain", x.tune(3, 0, 0, 1), OffsetChains.BAD);
        due.is("5 chain", x.tune(-1, 0, 0, 1), OffsetChains.BAD);
    }

    private static void readSteps() {
        OffsetChains x = new OffsetChains();
        due.is("6 lost", x.read(0, 0), -11);
        due.is("6 finding", x.count(8), 1);
        due.is("6 bad chain before lost", x.read(3, 0), OffsetChains.BAD);
        due.is("6 bad chain", x.read(-1, 0), OffsetChains.BAD);
        due.is("6 bad sheet", x.read(0, 4), OffsetChains.BAD);
        due.is("6 bad sheet", x.read(0, -1), OffsetChains.BAD);
        x.sheet(0, 0, 0);
        due.is("6 no items", x.read(0, 0), 0);
        x.sheet(0, 0, 3);
        due.is("6 not whole", x.read(0, 0), 0);
        int[] items = {1, 20, 9, 20, 0, 1, 0, 0, 1, 4, 5, 6, 0, 2, 3, 4, 1, 1, 1};
        x.sheet(0, 0, items.length);
        for (int a = 0; a < items.length; a++) {
            x.lay(0, 0, a, items[a]);
        }
        x.step(2, 0, 9, 8, 7);
        due.is("6 room for two", x.read(2, 0), 2);
        due.is("6 the one before", x.info(2, 0, 1), 9);
        int[][] told = {{1, 20, 9, 20}, {0, 1, 0, 0}, {1, 4, 5, 6}};
        for (int what = 0; what < 4; what++) {
            due.is("6 the first", x.info(2, 1, what), told[0][what]);
            due.is("6 the second", x.info(2, 2, what), told[1][what]);
        }
        due.is("6 no room", x.read(2, 0), 0);
        due.is("6 three, not four", x.read(1, 0), 3);
        for (int j = 0; j < 3; j++) {
            for (int what = 0; what < 4; what++) {
                due.is("6 all three", x.info(1, j, what), told[j][what]);
            }
        }
    }

    private static void readUntilOneIsNotAsToldAndOfLongs() {
        for (int spoilt = 4; spoilt < 8; spoilt++) {
            OffsetChains x = new OffsetChains();
            x.sheet(3, 1, 12);
            for (int a = 0; a < 12; a++) {
                x.lay(3, 1, a, 1);
            }
            x.lay(3, 1, spoilt, spoilt == 4 ? 2 : 21);
            due.is("6 only the one before", x.read(0, 3), 1);
            due.is("6 many", x.has(0, 5), 1);
            x.lay(3, 1, spoilt, -1);
            due.is("6 below", x.read(1, 3), 1);
        }
        OffsetChains x = new OffsetChains();
        x.step(0, 0, 1, 1, 0);
        x.step(1, 0, 1, 1, 0);
        x.step(2, 0, 2, 1, 0);
        x.sheet(1, 2, 3);
        due.is("6 bounds", x.write(1), 3);
        due.is("6 of longs", x.get(1, 2, 0), 4);
        x.sheet(2, 2, 4);
        due.is("6 of longs", x.copy(1, 1, 2, 1, 1), 1);
        due.is("6 of longs", x.read(0, 2), 1);
        due.is("6 of longs, the cost", x.info(0, 1, 1), 4);
        x.lay(2, 2, 1, 1);
        due.is("6 too high a cost", x.read(0, 2), 0);
        // Of this times 100000007 the lowest 32 bits alone are 17.
        x.lay(2, 2, 1, 189368359);
        due.is("6 too high a cost, cut or not", x.read(0, 2), 0);
    }

    private static void has() {
        OffsetChains x = new OffsetChains();
        x.chain(2, 3, 44);
        x.step(2, 0, 1, 1, 1);
        due.is("7 phase", x.has(2, 3), 44);
        due.is("7 many", x.has(2, 5), 1);
        due.is("7 what", x.has(2, 6), OffsetChains.BAD);
        due.is("7 what", x.has(2, -1), OffsetChains.BAD);
        due.is("7 chain", x.has(3, 0), OffsetChains.BAD);
        due.is("7 chain", x.has(-1, 0), OffsetChains.BAD);
        due.is("7 chain", x.has(LOW, 0), OffsetChains.BAD);
    }

    private static void info() {
        OffsetChains x = new OffsetChains();
        x.chain(0, 1, 6);
        x.step(0, 0, 3, 5, 4);
        x.step(0, 0, 2, 4, 7);
        x.step(0, 1, 1, 9, 0);
        x.step(1, 0, 1, 4, 0);
        x.step(1, 0, 1, 5, 2);
        due.is("8 earliest is the lag", x.info(0, 0, 4), 4);
        due.is("8 earliest", x.info(0, 1, 4), 14);
        due.is("8 earliest", x.info(0, 2, 4), 16);
        due.is("8 late is the jitter", x.info(0, 0, 5), 6);
        due.is("8 late is passed", x.info(0, 1, 5), x.bound(0, 0) + 7 - 14);
        due.is("8 late is passed", x.info(0, 2, 5), x.bound(0, 1) + 0 - 16);
        due.is("8 rivals no less urgent", x.info(0, 0, 6), 1);
        due.is("8 rivals of its chain too", x.info(0, 1, 6), 3);
        due.is("8 rivals on its node alone", x.info(0, 2, 6), 0);
        due.is("8 rivals", x.info(1, 0, 6), 3);
        due.is("8 rivals", x.info(1, 1, 6), 1);
        x.chain(2, 0, 5);
        x.step(2, 0, 6, 0, 0);
        due.is("8 not settled", x.info(0, 0, 5), OffsetChains.NONE);
        due.is("8 earliest none the less", x.info(0, 1, 4), 14);
        due.is("8 what", x.info(0, 0, 7), OffsetChains.BAD);
        due.is("8 what", x.info(0, 0, -1), OffsetChains.BAD);
        due.is("8 step", x.info(0, 3, 0), OffsetChains.BAD);
        due.is("8 step", x.info(1, 2, 0), OffsetChains.BAD);
        due.is("8 step", x.info(0, -1, 0), OffsetChains.BAD);
        due.is("8 chain", x.info(3, 0, 0), OffsetChains.BAD);
        due.is("8 chain", x.info(-1, 0, 0), OffsetChains.BAD);
    }

    private static void load() {
        OffsetChains x = new OffsetChains();
        x.chain(0, 0, 7);
        x.chain(1, 0, 100);
        x.chain(2, 0, 99);
        x.step(0, 0, 7, 5, 0);
        due.is("9 one", x.load(0, 0, 0), 1);
        due.is("9 one", x.load(0, 0, 1), 1);
        due.is("9 not above", x.count(7), 0);
        x.tune(0, 0, 1, 2);
        x.step(1, 0, 1, 5, 0);
        x.step(2, 0, 20, 6, 0);
        due.is("9 alone", x.load(2, 0, 0), 20);
        due.is("9 alone", x.load(2, 0, 1), 99);
        due.is("9 all three", x.load(0, 0, 0), 2 * 9900 + 693 + 14000);
        due.is("9 all three", x.load(0, 0, 1), 69300);
        x.chain(0, 0, 10);
        x.chain(1, 0, 10);
        due.is("9 lowest terms", x.load(1, 0, 0), 3 * 99 + 200);
        due.is("9 lowest terms", x.load(1, 0, 1), 990);
        x.back(2);
        due.is("9 lowest terms", x.load(1, 0, 0), 3);
        due.is("9 lowest terms", x.load(1, 0, 1), 10);
        due.is("9 what", x.load(1, 0, 2), OffsetChains.BAD);
        due.is("9 what", x.load(1, 0, -1), OffsetChains.BAD);
        due.is("9 step", x.load(1, 1, 0), OffsetChains.BAD);
        due.is("9 step", x.load(2, 0, 0), OffsetChains.BAD);
        due.is("9 chain", x.load(3, 0, 0), OffsetChains.BAD);
        due.is("9 chain", x.load(-1, 0, 0), OffsetChains.BAD);
    }
}
