/**
 * Promise 27 at its borders, and how long an object is used: a test of its own for each sentence of the document that
 * names one. The remark ahead of a test says which promise, or which part, and which sentence it holds. Promise 28
 * stands in DigestTest.
 */
public final class BordersOfCountsTest {
    private static final int BAD = OffsetChains.BAD, NOT = OffsetChains.NOT, FULL = OffsetChains.FULL;

    private static final Due due = new Due("BordersOfCountsTest");

    public static void main(String[] args) {
        countSteps();
        countWhetherSettled();
        countChainsThatMeet();
        countEnded();
        countIdleTicks();
        countTicks();
        countStepsAbove1();
        countFindings();
        countFindingsAlone();
        countWhat();
        usedFor512Calls();
        due.end();
    }

    // Promise 27: "0 STEPS": none, nine.
    private static void countSteps() {
        OffsetChains x = new OffsetChains();
        for (int many = 0; many < 9; many++) {
            due.is("so many", x.count(0), many);
            x.step(many % 3, 0, 1, 0, 0);
        }
        due.is("nine", x.count(0), 9);
        x.step(1, 0, 1, 0, 0);
        due.is("no tenth", x.count(0), 9);
        x.back(1);
        due.is("eight", x.count(0), 8);
    }

    // Promise 27: "1 whether all is SETTLED (1, 0)": no STEPS are settled.
    private static void countWhetherSettled() {
        OffsetChains x = new OffsetChains();
        due.is("no STEPS", x.count(1), 1);
        x.step(0, 0, 20, 0, 0);
        due.is("LOAD of 1", x.count(1), 1);
        x.step(1, 0, 1, 0, 0);
        due.is("above 1", x.count(1), 0);
        x.back(1);
        due.is("LOAD of 1", x.count(1), 1);
    }

    // Promise 27: "2 CHAINS that MEET their DEADLINE": none, three.
    private static void countChainsThatMeet() {
        OffsetChains x = new OffsetChains();
        for (int i = 2; i >= 0; i--) {
            x.chain(i, 2, 1);
            due.is("not without STEPS", x.count(2), 2 - i);
            x.step(i, i % 2, 1, 0, 0);
            x.chain(i, 2, 3);
            due.is("one more", x.count(2), 3 - i);
        }
        for (int i = 0; i < 3; i++) {
            x.chain(i, 2, 0);
            due.is("one less", x.count(2), 2 - i);
        }
    }

    // Promise 27: "3 how many STEPS ended in the latest RUN": before any, none, the latest alone.
    private static void countEnded() {
        OffsetChains x = Make.with(new int[] {20, 0, 0, 2, 5, 0, 1, 2, 5, 0});
        due.is("before any", x.count(3), 0);
        x.run(1);
        due.is("none", x.count(3), 0);
        x.run(3);
        due.is("one", x.count(3), 1);
        x.run(300);
        due.is("all", x.count(3), 30);
        x.run(4);
        due.is("the latest alone", x.count(3), 2);
        x.back(0);
        x.back(0);
        due.is("though they are gone", x.count(3), 2);
    }

    // Promise 27: "4, 5 TICKS of the latest RUN in which NODE 0, 1 did nothing": before any, all, none.
    private static void countIdleTicks() {
        OffsetChains x = Make.with(new int[] {5, 0, 0, 5, 5, 0});
        due.is("node 0 before any", x.count(4), 0);
        due.is("node 1 before any", x.count(5), 0);
        x.run(300);
        due.is("node 0 never", x.count(4), 0);
        due.is("node 1 always", x.count(5), 300);
        x.tune(0, 0, 0, 1);
        due.is("of the run as it was", x.count(4), 0);
        x.run(299);
        due.is("node 0 always", x.count(4), 299);
        due.is("node 1 never", x.count(5), 0);
        x.chain(0, 3, 99);
        x.run(100);
        due.is("node 1 but for one tick", x.count(5), 99);
    }

    // Promise 27: "6 TICKS of it": before any 0, then 1 to 300.
    private static void countTicks() {
        OffsetChains x = new OffsetChains();
        due.is("before any", x.count(6), 0);
        for (int h : new int[] {1, 2, 299, 300}) {
            x.run(h);
            due.is("of " + h, x.count(6), h);
        }
        x.run(301);
        due.is("a refused one is none", x.count(6), 300);
    }

    // Promise 27: "7 STEPS whose LOAD is above 1": none, those it is above for, nine.
    private static void countStepsAbove1() {
        int[] three = {5, 0, 0, 1, 5, 0, 0, 1, 4, 0, 0, 1, 3, 0};
        OffsetChains x = Make.with(three);
        due.is("3 by 5", x.count(7), 0);
        x = Make.with(three, three);
        due.is("2 by 5, 4 by 5, 6 by 5", x.count(7), 2);
        x = Make.with(three, three, three);
        due.is("3 by 5, 6 by 5, 9 by 5", x.count(7), 6);
        for (int number = 0; number < 9; number++) {
            x.tune(number / 3, number % 3, 2, 3);
        }
        due.is("9 by 5", x.count(7), 9);
    }

    // Promise 27: "8 the number of the latest FINDING (0 before any)": each, behind each other.
    private static void countFindings() {
        OffsetChains x = new OffsetChains();
        x.sheet(0, 0, 1);
        x.sheet(1, 1, 1);
        due.is("before any", x.count(8), 0);
        for (int turn = 0; turn < 2; turn++) {
            x.lose(2);
            due.is("NULL", x.count(8), 1);
            x.get(0, 0, 1);
            due.is("INDEX", x.count(8), 2);
            x.lay(0, 1, 0, 1);
            due.is("CAST", x.count(8), 3);
            x.copy(0, 0, 1, 0, 1);
            due.is("STORE", x.count(8), 4);
            x.sheet(0, 0, -1);
            due.is("SIZE", x.count(8), 5);
        }
    }

    // Promise 27: "the latest FINDING": no other refusal, and no call that is answered, is one.
    private static void countFindingsAlone() {
        for (int finding = 0; finding < 2; finding++) {
            OffsetChains x = Make.with(new int[] {20, 0, 0, 1, 5, 0, 0, 1, 5, 0, 0, 1, 5, 0});
            x.sheet(0, 1, 4);
            if (finding == 1) {
                x.read(1, 1);
            }
            due.is("BAD", x.chain(3, 0, 20), BAD);
            due.is("BAD of a sheet", x.sheet(4, 1, 4), BAD);
            due.is("NOT", x.back(1), NOT);
            due.is("FULL", x.step(0, 0, 1, 5, 0), FULL);
            due.is("answered", x.lay(0, 1, 0, 1), 1);
            due.is("answered", x.write(0), 3);
            due.is("answered", x.copy(0, 0, 0, 1, 3), 1);
            due.is("answered", x.lose(0), 4);
            due.is("it stays", x.count(8), finding);
        }
    }

    // Promise 27: "BAD": 0 to 8 are told.
    private static void countWhat() {
        OffsetChains x = new OffsetChains();
        int[] told = {0, 1, 0, 0, 0, 0, 0, 0, 0};
        for (int what = 0; what <= 8; what++) {
            due.is("count(" + what + ")", x.count(what), told[what]);
        }
        for (int what : Make.outside(0, 8)) {
            due.is("count(" + what + ")", x.count(what), BAD);
        }
    }

    // What it is: "An object is used for at most 512 calls after it has been made": the 512th is as good as the first.
    private static void usedFor512Calls() {
        OffsetChains x = new OffsetChains();
        int calls = 0;
        int[] costs = {3, 5, 4};
        for (int i = 0; i < 3; i++) {
            x.chain(i, 0, 90);
            x.chain(i, 2, 150);
            for (int j = 0; j < 3; j++) {
                x.step(i, j % 2, costs[j], 3 + i, j);
                calls += 1;
            }
            calls += 2;
        }
        int run = x.run(300);
        int margin = x.margin(0, 1);
        int better = x.better(0, 1, 1);
        long digest = x.digest();
        calls += 4;
        while (calls + 6 <= 512) {
            due.is("run", x.run(300), run);
            due.is("margin", x.margin(0, 1), margin);
            due.is("better", x.better(0, 1, 1), better);
            due.is("tune", x.tune(2, 2, 1, 20), 4);
            due.is("tune", x.tune(2, 2, 1, 4), 20);
            due.is("digest", x.digest(), digest);
            calls += 6;
        }
        for (; calls < 511; calls++) {
            due.is("tick", x.tick(0, 0), 6);
        }
        due.is("the 512th", x.digest(), digest);
    }
}
