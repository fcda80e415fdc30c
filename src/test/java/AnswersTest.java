/** Promises 10 to 17: bounds, searched, quick, rounds, worst, meets, margin, better. */
public final class AnswersTest {
    private static final Due due = new Due("AnswersTest");

    public static void main(String[] args) {
        refusals();
        alone();
        borders();
        offsetsTold();
        oneMomentChosen();
        noQuick();
        rounds();
        worst();
        meets();
        margin();
        marginOfAllDeadlines();
        better();
        betterByTheLastStep();
        changesAreSeen();
        due.end();
    }

    private static void answers(String what, OffsetChains x, int i, int j, int bound, int searched, int quick) {
        due.is("10 " + what, x.bound(i, j), bound);
        due.is("11 " + what, x.searched(i, j), searched);
        due.is("12 " + what, x.quick(i, j), quick);
    }

    private static void refusals() {
        OffsetChains x = Make.with(new int[] {20, 0, 0, 1, 1, 1}, new int[] {20, 0, 0, 1, 1, 1, 0, 1, 1, 1});
        int[][] none = {{-1, 0}, {3, 0}, {0, -1}, {0, 1}, {1, 2}, {2, 0}, {Integer.MAX_VALUE, 0},
            {0, Integer.MIN_VALUE}};
        for (int[] at : none) {
            int i = at[0], j = at[1];
            due.is("10 no step", x.bound(i, j), OffsetChains.BAD);
            due.is("11 no step", x.searched(i, j), OffsetChains.BAD);
            due.is("12 no step", x.quick(i, j), OffsetChains.BAD);
            due.is("14 no step", x.worst(i, j, 0), OffsetChains.BAD);
            due.is("16 no step", x.margin(i, j), OffsetChains.BAD);
            due.is("17 no step", x.better(i, j, 0), OffsetChains.BAD);
        }
        due.is("14 what", x.worst(0, 0, 3), OffsetChains.BAD);
        due.is("14 what", x.worst(0, 0, -1), OffsetChains.BAD);
        due.is("17 what", x.better(0, 0, 2), OffsetChains.BAD);
        due.is("17 what", x.better(0, 0, -1), OffsetChains.BAD);
    }

    private static void alone() {
        // Two come together within 15 of jitter: the first waits longest.
        OffsetChains x = Make.with(new int[] {10, 15, 0, 4, 2, 3});
        answers("alone", x, 0, 0, 4 + 15 + 3, 22, 22);
        due.is("14 busy", x.worst(0, 0, 2), 12);
        due.is("13 alone", x.rounds(), 1);
        // A chain of three on one node, each behind the other: none is in the other's way.
        x = Make.with(new int[] {60, 0, 1, 20, 9, 20, 1, 20, 8, 20, 1, 20, 7, 20});
        answers("its first", x, 0, 0, 40, 40, 40);
        answers("its second", x, 0, 1, 80, 80, 100);
        answers("its third", x, 0, 2, 120, 120, 160);
    }

    private static void borders() {
        // n of them are done at 20 n, and the next comes at 21 n less the jitter: so 10 or 11 in a row.
        OffsetChains x = Make.with(new int[] {21, 10, 0, 20, 0, 0});
        answers("BUSY of 200", x, 0, 0, 30, 30, 30);
        due.is("14 BUSY of 200", x.worst(0, 0, 2), 200);
        x.chain(0, 1, 11);
        answers("BUSY of 220", x, 0, 0, -1, -1, -1);
        due.is("13 BUSY of 220", x.rounds(), -1);
        due.is("14 BUSY of 220", x.worst(0, 0, 2), -1);
        // LOAD of just 1; then below 1, and a little above.
        x = Make.with(new int[] {20, 0, 0, 20, 3, 0});
        answers("LOAD of 1", x, 0, 0, 20, 20, 20);
        x = Make.with(new int[] {20, 0, 0, 10, 3, 0}, new int[] {20, 0, 0, 9, 3, 0}, new int[] {95, 0, 1, 1, 1, 0});
        answers("LOAD below 1", x, 2, 0, 1, 1, 1);
        answers("LOAD below 1", x, 0, 0, 19, 19, 19);
        x.tune(1, 0, 1, 11);
        due.is("9 LOAD above 1", x.load(0, 0, 0) > x.load(0, 0, 1) ? 1 : 0, 1);
        answers("one is ENDLESS, so all are none", x, 2, 0, -1, -1, -1);
        due.is("8 no LATES", x.info(2, 0, 5), -1);
    }

    private static void offsetsTold() {
        OffsetChains x = Make.with(new int[] {81, 0, 0, 5, 3, 13, 0, 9, 4, 18}, new int[] {83, 22, 0, 12, 4, 1});
        answers("the second is never in the way of the first", x, 0, 0, 30, 30, 39);
        x = Make.with(new int[] {38, 3, 0, 3, 3, 0}, new int[] {96, 0, 0, 20, 4, 0, 0, 12, 3, 6});
        answers("one of them alone", x, 0, 0, 26, 26, 38);
        answers("behind its own first", x, 1, 1, 41, 41, 61);
    }

    private static void oneMomentChosen() {
        OffsetChains x = Make.with(new int[] {76, 0, 0, 1, 4, 9}, new int[] {45, 0, 0, 11, 4, 1, 0, 15, 4, 3});
        // By the first 1 and 11 to 12, by the second 1 and 15 to 16; the greatest of both goes on to 27.
        answers("two moments", x, 0, 0, 27 + 9, 16 + 9, 36);
        x = Make.with(new int[] {57, 0, 0, 16, 3, 6, 0, 20, 3, 13}, new int[] {92, 25, 0, 11, 3, 5});
        answers("two moments, and jitter", x, 1, 0, 133, 117, 133);
    }

    private static void noQuick() {
        OffsetChains x = Make.with(new int[] {27, 0, 0, 18, 3, 19, 0, 7, 3, 9}, new int[] {93, 0, 0, 3, 4, 16});
        answers("no QUICK", x, 0, 0, 54, 54, -1);
        answers("no QUICK", x, 0, 1, 92, 92, -1);
        answers("nobody is in its way", x, 1, 0, 19, 19, 19);
    }

    private static void rounds() {
        OffsetChains x = new OffsetChains();
        due.is("13 no steps", x.rounds(), 1);
        x = Make.with(new int[] {20, 0, 0, 3, 5, 0, 1, 4, 5, 2}, new int[] {20, 0, 0, 3, 5, 0});
        due.is("13 one changes, one not", x.rounds(), 2);
        due.is("13 passed on", x.info(0, 1, 5), 3);
        x = Make.with(new int[] {11, 11, 0, 3, 0, 20, 0, 1, 2, 20, 0, 3, 8, 4});
        due.is("13 twenty", x.rounds(), 20);
        due.is("13 twenty", x.count(1), 1);
        x = Make.with(new int[] {18, 20, 0, 1, 0, 11, 0, 1, 5, 0, 0, 7, 4, 1});
        due.is("13 the 20th changes one", x.rounds(), -1);
        due.is("13 the 20th changes one", x.count(1), 0);
        for (int j = 0; j < 3; j++) {
            answers("the 20th changes one", x, 0, j, -1, -1, -1);
            due.is("8 the 20th changes one", x.info(0, j, 5), -1);
            due.is("14 the 20th changes one", x.worst(0, j, 0), -1);
        }
    }

    private static void worst(String what, OffsetChains x, int i, int j, int moment, int q, int busy) {
        due.is("14 moment " + what, x.worst(i, j, 0), moment);
        due.is("14 Q " + what, x.worst(i, j, 1), q);
        due.is("14 BUSY " + what, x.worst(i, j, 2), busy);
    }

    private static void worst() {
        worst("jitter", Make.with(new int[] {10, 15, 0, 4, 2, 3}), 0, 0, 0, 0, 12);
        OffsetChains x = Make.with(new int[] {42, 0, 0, 5, 4, 14, 0, 14, 3, 0},
                new int[] {76, 0, 0, 14, 3, 14, 0, 14, 3, 4});
        worst("by the one before, a later one", x, 0, 1, 0, 1, 146);
        due.is("10 that", x.bound(0, 1), 85);
        x = Make.with(new int[] {15, 8, 0, 10, 4, 5, 0, 1, 3, 18}, new int[] {93, 0, 0, 20, 4, 1});
        worst("by the one before, the fourth", x, 0, 1, 0, 3, 184);
        due.is("10 that", x.bound(0, 1), 167);
        // By the first 21 less 3 and 27, by itself 3 less 23 and 38 and 27: 45 by both, so the least is named.
        x = Make.with(new int[] {38, 15, 0, 18, 4, 9, 0, 3, 3, 0});
        worst("the least moment", x, 0, 1, 0, 0, 21);
        due.is("10 that", x.bound(0, 1), 45);
        // 56 by the first and by the second.
        x = Make.with(new int[] {20, 23, 0, 8, 4, 4}, new int[] {35, 0, 0, 19, 4, 5});
        worst("the least Q", x, 1, 0, 0, 0, 175);
        due.is("10 that", x.bound(1, 0), 56);
    }

    private static void meets() {
        OffsetChains x = Make.with(new int[] {40, 0, 0, 4, 5, 3, 1, 6, 5, 0}, new int[] {40, 0, 0, 5, 2, 0});
        due.is("15 no deadlines", x.meets(), 0);
        due.is("10 first", x.bound(0, 1), 13);
        due.is("10 second", x.bound(1, 0), 9);
        x.chain(0, 2, 13);
        due.is("15 just", x.meets(), 1);
        x.chain(1, 2, 8);
        due.is("15 not the second", x.meets(), 1);
        x.chain(1, 2, 9);
        due.is("15 both", x.meets(), 3);
        x.chain(0, 2, 12);
        due.is("15 not the first", x.meets(), 2);
        x.chain(2, 2, 200);
        due.is("15 a chain without steps", x.meets(), 2);
        x.step(2, 1, 1, 0, 0);
        due.is("15 now it has one", x.meets(), 6);
        due.is("27 as many", x.count(2), 2);
        x.chain(2, 1, 1);
        x.chain(2, 0, 5);
        x.tune(2, 0, 1, 20);
        due.is("15 no bounds", x.meets(), 0);
        due.is("27 none", x.count(2), 0);
        x = Make.with(new int[] {40, 0, 0, 1, 5, 0});
        x.chain(0, 2, 1);
        due.is("15 the least deadline", x.meets(), 1);
        x.tune(0, 0, 1, 2);
        due.is("15 above the least deadline", x.meets(), 0);
    }

    private static void margin() {
        OffsetChains x = Make.with(new int[] {100, 0, 0, 5, 1, 0});
        due.is("16 no deadlines", x.margin(0, 0), 8);
        x.chain(0, 2, 10);
        due.is("16 5 more", x.margin(0, 0), 5);
        due.is("16 nothing has changed", x.info(0, 0, 1), 5);
        due.is("16 nothing has changed", x.bound(0, 0), 5);
        x.chain(0, 2, 5);
        due.is("16 no more", x.margin(0, 0), 0);
        x.chain(0, 2, 4);
        due.is("16 none", x.margin(0, 0), OffsetChains.NONE);
        x.chain(0, 2, 1);
        due.is("16 none", x.margin(0, 0), OffsetChains.NONE);
        x.chain(0, 2, 13);
        due.is("16 just 8", x.margin(0, 0), 8);
        x.chain(0, 2, 200);
        due.is("16 no more than 8", x.margin(0, 0), 8);
        x.tune(0, 0, 1, 20);
        x.chain(0, 2, 27);
        due.is("16 above what a step may cost", x.margin(0, 0), 7);
        x.chain(0, 0, 5);
        due.is("16 ENDLESS", x.margin(0, 0), OffsetChains.NONE);
        x.chain(0, 2, 0);
        due.is("16 ENDLESS, but no deadlines", x.margin(0, 0), 8);
    }

    private static void marginOfAllDeadlines() {
        OffsetChains x = Make.with(new int[] {50, 0, 0, 5, 9, 0}, new int[] {50, 0, 0, 6, 1, 0, 1, 7, 1, 2},
                new int[] {50, 0, 1, 1, 0, 0});
        x.chain(0, 2, 50);
        due.is("16 its own", x.margin(0, 0), 8);
        x.chain(1, 2, 5 + 6 + 2 + 7 + 3);
        due.is("16 another's", x.margin(0, 0), 3);
        due.is("16 of that one", x.margin(1, 0), 3);
        due.is("16 of its last", x.margin(1, 1), 3);
        due.is("16 of one that has none", x.margin(2, 0), 8);
        x.chain(0, 2, 4);
        due.is("16 another is late already", x.margin(1, 0), OffsetChains.NONE);
    }

    private static void better() {
        OffsetChains x = Make.with(new int[] {20, 0, 0, 4, 5, 0}, new int[] {20, 0, 0, 5, 3, 0});
        due.is("17 above the other's", x.better(1, 0, 0), 6);
        due.is("17 alone then", x.better(1, 0, 1), 5);
        due.is("17 as it is", x.info(1, 0, 2), 3);
        due.is("17 as it is", x.bound(1, 0), 9);
        due.is("17 the least of like ones", x.better(0, 0, 0), 4);
        due.is("17 the least of like ones", x.better(0, 0, 1), 4);
        x.tune(0, 0, 2, 9);
        due.is("17 none is above", x.better(1, 0, 0), 0);
        due.is("17 none is above", x.better(1, 0, 1), 9);
        x.tune(0, 0, 2, 8);
        due.is("17 up to 9", x.better(1, 0, 0), 9);
        due.is("17 up to 9", x.better(1, 0, 1), 5);
        x.chain(0, 0, 5);
        x.tune(0, 0, 1, 4);
        x.tune(0, 0, 2, 0);
        x.chain(1, 0, 5);
        due.is("17 by none", x.better(1, 0, 0), OffsetChains.NONE);
        due.is("17 by none", x.better(1, 0, 1), OffsetChains.NONE);
        // By some it is ENDLESS, by others not.
        x = Make.with(new int[] {10, 1, 0, 5, 4, 0}, new int[] {10, 1, 0, 5, 6, 0}, new int[] {10, 0, 1, 5, 6, 0});
        due.is("10 ENDLESS", x.bound(1, 0), OffsetChains.NONE);
        due.is("17 by none, for the other is behind then", x.better(1, 0, 1), OffsetChains.NONE);
        due.is("17 by none, for others are ENDLESS", x.better(2, 0, 1), OffsetChains.NONE);
    }

    private static void betterByTheLastStep() {
        OffsetChains x = Make.with(new int[] {50, 0, 0, 4, 5, 0, 1, 3, 2, 0}, new int[] {50, 0, 0, 5, 5, 0},
                new int[] {50, 0, 1, 6, 2, 0});
        due.is("10 its last", x.bound(0, 1), 18);
        due.is("17 of the first, for the last", x.better(0, 0, 0), 6);
        due.is("17 of the first, for the last", x.better(0, 0, 1), 13);
        due.is("17 of the last", x.better(0, 1, 0), 3);
        due.is("17 of the last", x.better(0, 1, 1), 12);
    }

    private static void changesAreSeen() {
        OffsetChains x = Make.with(new int[] {30, 0, 0, 4, 5, 0});
        due.is("10 alone", x.bound(0, 0), 4);
        x.step(1, 0, 3, 5, 0);
        due.is("10 step()", x.bound(0, 0), 7);
        x.tune(1, 0, 1, 5);
        due.is("10 tune()", x.bound(0, 0), 9);
        x.chain(0, 1, 2);
        due.is("10 chain()", x.bound(0, 0), 11);
        x.sheet(0, 1, 4);
        x.lay(0, 1, 1, 6);
        x.lay(0, 1, 2, 5);
        x.read(2, 0);
        due.is("10 read()", x.bound(0, 0), 17);
        x.back(1);
        due.is("10 back()", x.bound(0, 0), 12);
        due.is("16 margin()", x.margin(0, 0), 8);
        due.is("10 after margin()", x.bound(0, 0), 12);
        due.is("17 better()", x.better(0, 0, 1), 6);
        due.is("10 after better()", x.bound(0, 0), 12);
    }
}
