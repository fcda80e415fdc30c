/**
 * Promises 10 to 17, and the terms that they rest on, at their borders: a test of its own for each sentence of the
 * document that names one. The remark ahead of a test says which promise, or which part, and which sentence it holds.
 * What is refused by them stands in BordersOfRefusalsTest.
 */
public final class BordersOfAnswersTest {
    private static final int NONE = OffsetChains.NONE, BAD = OffsetChains.BAD;

    private static final Due due = new Due("BordersOfAnswersTest");

    public static void main(String[] args) {
        phiIsModuloT();
        comesIsCut();
        comesIsRoundedUp();
        comesWithJitterOfMoreThanT();
        momentsOfItsOwnChain();
        othersAre0();
        othersAreTheGreatest();
        busyIsFrom1On();
        qIsFrom0On();
        qIsLessThanXComes();
        nIsCut();
        boundIsTheGreatest();
        endlessAboveALoadOf1();
        endlessAbove200();
        latesAtFirst();
        lateIsIfMore();
        roundsUntilNoneChanges();
        endlessInAnyRound();
        roundsUpTo20();
        noBoundsNoLates();
        ofTheLastRound();
        searchedOfChainsThatHaveMoments();
        searchedByAllWays();
        searchedByNineWays();
        searchedTakesOneMomentForAllTimes();
        searchedUpTo200();
        searchedIsNone();
        quickIsRoundedUp();
        quickTakesAllItsChain();
        quickQs();
        quickUpTo200();
        quickIsNone();
        quickIsNoneIfNotSettled();
        roundsIsNone();
        worstTakesTheLeastMoment();
        worstTakesTheLeastMomentAheadOfTheLeastQ();
        worstTakesTheLeastQ();
        worstIsAStepOfTheChain();
        worstIsNone();
        meetsHasSteps();
        meetsHasADeadline();
        meetsItsLastStep();
        meetsIfThereAreBounds();
        meetsAsBits();
        marginIsFrom0To8();
        marginIsTheGreatest();
        marginOfAllChains();
        marginWithoutDeadlines();
        marginIsNone();
        betterIsFrom0To9();
        betterIsTheLeastOfLikeOnes();
        betterOfTheLastStep();
        betterPassesOverEndlessOnes();
        betterIsNone();
        due.end();
    }

    private static int[] told(int... chain) {
        return chain;
    }

    private static void answers(String what, OffsetChains x, int i, int j, int bound, int searched, int quick) {
        due.is(what + ": bound(" + i + ", " + j + ")", x.bound(i, j), bound);
        due.is(what + ": searched(" + i + ", " + j + ")", x.searched(i, j), searched);
        due.is(what + ": quick(" + i + ", " + j + ")", x.quick(i, j), quick);
    }

    private static void worst(String what, OffsetChains x, int i, int j, int moment, int q, int busy) {
        due.is(what + ": worst(" + i + ", " + j + ", 0)", x.worst(i, j, 0), moment);
        due.is(what + ": worst(" + i + ", " + j + ", 1)", x.worst(i, j, 1), q);
        due.is(what + ": worst(" + i + ", " + j + ", 2)", x.worst(i, j, 2), busy);
    }

    private static void notSettled(String what, OffsetChains x) {
        due.is(what + ": rounds()", x.rounds(), NONE);
        due.is(what + ": count(1)", x.count(1), 0);
        for (int i = 0; i < 3; i++) {
            for (int j = 0; j < x.has(i, 5); j++) {
                answers(what, x, i, j, NONE, NONE, NONE);
                worst(what, x, i, j, NONE, NONE, NONE);
                due.is(what + ": info(" + i + ", " + j + ", 5)", x.info(i, j, 5), NONE);
            }
        }
    }

    // Terms: "PHI of j by k: T less (EARLIEST and LATE of k together less EARLIEST of j, modulo T, 0 or more)": it is
    // below 0 ahead of the modulo; it is a whole PERIOD, or two; it is above 0.
    private static void phiIsModuloT() {
        // By the first the second comes at 5, when the first has just ended.
        answers("k ahead of j", Make.with(told(20, 0, 0, 5, 5, 0, 0, 4, 5, 0)), 0, 0, 5, 5, 9);
        // A whole PERIOD, or two, behind the first: both come at once.
        answers("one PERIOD apart", Make.with(told(20, 0, 0, 5, 5, 0, 0, 4, 5, 15)), 0, 0, 9, 9, 9);
        answers("two PERIODS apart", Make.with(told(20, 0, 0, 20, 5, 20, 1, 5, 9, 0, 1, 4, 9, 15)), 0, 1, 49, 49, 49);
        // By the second, which comes at 19, the first comes 1 behind it; so the second may be late, and come with it.
        OffsetChains x = Make.with(told(20, 0, 0, 5, 5, 0, 0, 4, 5, 14));
        answers("one less than a PERIOD apart", x, 0, 0, 9, 9, 9);
    }

    // Terms: "LATE of j and PHI together by T, cut": T less 1, T, T and 1 of LATE.
    private static void comesIsCut() {
        // LATE, and how many of COST 1 there are within BUSY.
        int[][] told = {{8, 1}, {9, 1}, {10, 2}, {11, 2}, {18, 2}, {19, 3}, {20, 3}, {27, 3}, {28, 4}, {30, 4}};
        for (int[] by : told) {
            OffsetChains x = Make.with(told(10, by[0], 0, 1, 5, 0));
            due.is("LATE of " + by[0] + ", T of 10", x.bound(0, 0), by[0] + 1);
            worst("LATE of " + by[0] + ", T of 10", x, 0, 0, 0, 0, by[1]);
        }
    }

    // Terms: "and t less PHI by T, rounded up, together": at t of PHI it has not come again, at PHI and 1 it has.
    private static void comesIsRoundedUp() {
        // With LATE of 16 the next comes at 4, with LATE of 17 at 3.
        worst("at PHI", Make.with(told(20, 16, 0, 4, 5, 0)), 0, 0, 0, 0, 4);
        worst("at PHI and 1", Make.with(told(20, 17, 0, 4, 5, 0)), 0, 0, 0, 0, 8);
        // The second comes at 5, when the first has done its 5, but not the 1 of another chain.
        OffsetChains x = Make.with(told(20, 0, 0, 5, 5, 0, 0, 4, 5, 0), told(100, 0, 0, 1, 4, 0));
        due.is("at PHI of another", x.bound(0, 0), 5);
        x.tune(1, 0, 2, 5);
        due.is("at PHI and 1 of another", x.bound(0, 0), 10);
        // Another chain comes again at its PERIOD and 1.
        x = Make.with(told(100, 0, 0, 8, 5, 0), told(10, 0, 0, 2, 6, 0));
        due.is("at T of another", x.bound(0, 0), 10);
        x.tune(0, 0, 1, 9);
        due.is("at T and 1 of another", x.bound(0, 0), 13);
    }

    // Terms: "LATE of j and PHI together by T, cut, and t less PHI by T, rounded up, together": LATE of many PERIODS.
    private static void comesWithJitterOfMoreThanT() {
        // 7 are there at once, the 8th comes at 5.
        OffsetChains x = Make.with(told(5, 30, 0, 1, 5, 0));
        answers("six PERIODS late", x, 0, 0, 31, 31, 31);
        worst("six PERIODS late", x, 0, 0, 0, 0, 8);
    }

    // Terms: "MOMENTS for x of a CHAIN: RIVALS of x in it; of x's own CHAIN x, too."
    private static void momentsOfItsOwnChain() {
        // The first is no RIVAL of the second, so x alone is its MOMENT; as a RIVAL it is the worse one.
        OffsetChains x = Make.with(told(20, 0, 0, 15, 4, 0, 0, 4, 5, 7));
        worst("x alone", x, 0, 1, 1, 0, 4);
        due.is("x alone, EARLIEST 22, LATE 4, COST 4", x.bound(0, 1), 30);
        x.tune(0, 0, 2, 5);
        worst("a RIVAL, too", x, 0, 1, 0, 0, 19);
        due.is("a RIVAL, too", x.bound(0, 1), 39);
        // On the other NODE and just a PERIOD ahead, it would tell the same ANSWER, and be the least k.
        x = Make.with(told(20, 0, 1, 20, 5, 0, 0, 4, 5, 0));
        due.is("a PERIOD behind one that is no RIVAL", x.bound(0, 1), 24);
        worst("a PERIOD behind one that is no RIVAL", x, 0, 1, 1, 0, 4);
    }

    // Terms: "(0, if it has none)": other chains without STEPS, with STEPS on the other NODE, with less urgent ones.
    private static void othersAre0() {
        answers("no STEPS", Make.with(told(20, 0, 0, 7, 5, 0), told(5, 30)), 0, 0, 7, 7, 7);
        answers("other NODE", Make.with(told(20, 0, 0, 7, 5, 0), told(50, 30, 1, 20, 9, 0)), 0, 0, 7, 7, 7);
        answers("less urgent", Make.with(told(50, 0, 0, 7, 5, 0), told(50, 30, 0, 20, 4, 0)), 0, 0, 7, 7, 7);
        answers("just as urgent", Make.with(told(50, 0, 0, 7, 5, 0), told(50, 0, 0, 20, 5, 0)), 0, 0, 27, 27, 27);
    }

    // Terms: "the greatest WORK by any of its MOMENTS within t": by another moment as t grows.
    private static void othersAreTheGreatest() {
        OffsetChains x = Make.with(told(100, 0, 0, 5, 1, 0), told(100, 0, 0, 1, 9, 0, 0, 10, 9, 20),
                told(100, 0, 0, 2, 8, 0, 0, 12, 8, 20));
        // Within 27 by the second of chain 1 alone 10, by the first of it 11; of chain 2 12, and 14.
        due.is("it goes on to 5 and 11 and 14", x.bound(0, 0), 30);
    }

    // Terms, and 2 of QUICK: "BUSY: the least t (1 on)".
    private static void busyIsFrom1On() {
        OffsetChains x = Make.with(told(100, 0, 0, 1, 0, 0));
        answers("the least there is", x, 0, 0, 1, 1, 1);
        worst("the least there is", x, 0, 0, 0, 0, 1);
    }

    // Terms: "For each Q from 0 on".
    private static void qIsFrom0On() {
        OffsetChains x = Make.with(told(10, 15, 0, 4, 2, 3));
        due.is("the first of two", x.bound(0, 0), 22);
        worst("the first of two", x, 0, 0, 0, 0, 12);
    }

    // Terms: "less than x COMES by k within BUSY": by a moment by which it does not come at all; up to the last one.
    private static void qIsLessThanXComes() {
        // By the second, BUSY is its 7, and the first has not come.
        OffsetChains x = Make.with(told(20, 0, 0, 9, 5, 0, 0, 7, 5, 0));
        due.is("none by the second", x.bound(0, 0), 9);
        worst("none by the second", x, 0, 0, 0, 0, 9);
        // Two, three come within BUSY, and the last waits longest.
        x = Make.with(told(50, 0, 0, 15, 4, 0), told(20, 6, 0, 13, 5, 0));
        due.is("the last of three", x.bound(0, 0), 58);
        worst("the last of three", x, 0, 0, 0, 1, 149);
    }

    // Terms: "where N is LATE of x and PHI of x by k together by T, cut": alone, the first waits for LATE and COST.
    private static void nIsCut() {
        for (int late = 0; late <= 30; late++) {
            OffsetChains x = Make.with(told(10, late, 0, 2, 5, 7));
            due.is("LATE of " + late, x.bound(0, 0), late + 2 + 7);
        }
    }

    // Terms: "BOUND of x: the greatest ANSWER, by all k and Q."
    private static void boundIsTheGreatest() {
        OffsetChains x = Make.with(told(20, 0, 0, 15, 5, 0, 0, 4, 5, 7));
        due.is("by the first moment", x.bound(0, 1), 39);
        x = Make.with(told(100, 0, 0, 5, 5, 0, 0, 4, 5, 20));
        due.is("by the last moment", x.bound(0, 1), 29);
        x = Make.with(told(42, 0, 0, 5, 4, 14, 0, 14, 3, 0), told(76, 0, 0, 14, 3, 14, 0, 14, 3, 4));
        due.is("by a later Q", x.bound(0, 1), 85);
    }

    // Terms: "It is ENDLESS, if LOAD of x is above 1": just 1 is not, one more is.
    private static void endlessAboveALoadOf1() {
        OffsetChains x = Make.with(told(20, 0, 0, 20, 5, 0));
        answers("20 by 20", x, 0, 0, 20, 20, 20);
        x = Make.with(told(20, 0, 0, 10, 5, 0), told(20, 0, 0, 10, 5, 0));
        answers("10 and 10 by 20", x, 0, 0, 20, 20, 20);
        answers("10 and 10 by 20", x, 1, 0, 20, 20, 20);
        x.tune(1, 0, 1, 11);
        notSettled("10 and 11 by 20", x);
        x.tune(1, 0, 2, 4);
        notSettled("10 and 11 by 20, for one of them alone", x);
        // A little more than 1 for the least urgent: 49 by 97, 48 by 99 and 1 by 100.
        x = Make.with(told(97, 0, 0, 20, 5, 0, 0, 20, 5, 0, 0, 9, 5, 0),
                told(99, 0, 0, 20, 5, 0, 0, 20, 5, 0, 0, 8, 5, 0), told(100, 0, 0, 1, 4, 0));
        notSettled("a little above 1", x);
        // It is above 1 for none, when they are on two nodes.
        x = Make.with(told(20, 0, 0, 20, 5, 0), told(20, 0, 1, 20, 5, 0));
        answers("20 by 20 on each node", x, 1, 0, 20, 20, 20);
    }

    // Terms: "or a BUSY, or an END, is none up to 200": 200 is one, 201 is none. (An END is never above its BUSY.)
    private static void endlessAbove200() {
        // The n-th is done at 20 n, and the next comes at 23 n less 30: ten in a row.
        OffsetChains x = Make.with(told(23, 30, 0, 20, 5, 0));
        due.is("BUSY of 200", x.bound(0, 0), 50);
        worst("BUSY of 200", x, 0, 0, 0, 0, 200);
        // Within 201: 11 times 15, and 3 times 12.
        x = Make.with(told(20, 19, 0, 15, 5, 0), told(70, 0, 0, 12, 5, 0));
        notSettled("BUSY of 201", x);
        x.tune(1, 0, 1, 11);
        due.is("BUSY of less", x.rounds(), 1);
        x = Make.with(told(21, 11, 0, 20, 0, 0));
        notSettled("BUSY of 220", x);
        x.chain(0, 1, 10);
        worst("BUSY of 200", x, 0, 0, 0, 0, 200);
    }

    // Terms: "ROUNDS: at first LATE of a STEP 0 is JITTER, of others 0": nothing is passed on here, so it stays so.
    private static void latesAtFirst() {
        for (int jitter : new int[] {0, 30}) {
            OffsetChains x = Make.with(told(50, 0, 0, 3, 5, 4, 1, 5, 5, 6, 0, 1, 5, 0), told(50, jitter, 1, 2, 4, 9));
            due.is("one round", x.rounds(), 1);
            due.is("STEP 0", x.info(0, 0, 5), 0);
            due.is("STEP 1", x.info(0, 1, 5), 0);
            due.is("STEP 2", x.info(0, 2, 5), 0);
            due.is("STEP 0 with JITTER " + jitter, x.info(1, 0, 5), jitter);
        }
    }

    // Terms: "LATE of each STEP but 0 becomes BOUND of the one before and LAG less EARLIEST, if that is more than it
    // was": as much is no change, 1 more is.
    private static void lateIsIfMore() {
        OffsetChains x = Make.with(told(100, 0, 1, 20, 9, 20, 1, 20, 8, 20, 1, 20, 7, 20));
        due.is("as much as it was", x.rounds(), 1);
        due.is("as much as it was", x.info(0, 1, 5), 0);
        due.is("as much as it was", x.info(0, 2, 5), 0);
        x.chain(0, 1, 1);
        due.is("1 more", x.rounds(), 3);
        due.is("1 more", x.info(0, 0, 5), 1);
        due.is("1 more", x.info(0, 1, 5), 1);
        due.is("1 more", x.info(0, 2, 5), 1);
        x = Make.with(told(30, 0, 0, 3, 5, 0, 1, 4, 5, 2), told(60, 0, 0, 1, 9, 0));
        due.is("1 more by another chain", x.rounds(), 2);
        due.is("1 more by another chain", x.bound(0, 0), 4);
        due.is("1 more by another chain", x.info(0, 1, 5), 4 + 2 - 5);
    }

    // Terms: "ROUNDS go on until one changes none: all is SETTLED", and promise 13: "ROUNDS until it was SETTLED, the
    // one that changed none too".
    private static void roundsUntilNoneChanges() {
        due.is("no STEPS", new OffsetChains().rounds(), 1);
        due.is("no STEPS", new OffsetChains().count(1), 1);
        due.is("no STEP but 0", Make.with(told(20, 9, 0, 3, 5, 0), told(20, 9, 0, 3, 5, 0)).rounds(), 1);
        due.is("one changes, one does not", Make.with(told(20, 1, 0, 3, 5, 0, 1, 4, 5, 2)).rounds(), 2);
        due.is("two change, one does not", Make.with(told(20, 1, 0, 3, 5, 0, 1, 4, 5, 2, 0, 1, 9, 2)).rounds(), 3);
    }

    // Terms: "If a BOUND is ENDLESS in any ROUND": in the first, in the second, in the last that there may be.
    private static void endlessInAnyRound() {
        notSettled("in the first", Make.with(told(20, 0, 0, 10, 5, 0), told(20, 0, 0, 11, 5, 0)));
        notSettled("in the second", Make.with(told(20, 4, 0, 9, 5, 0, 0, 10, 5, 0)));
        notSettled("in the 19th", Make.with(told(20, 0, 0, 2, 5, 0, 0, 11, 5, 8)));
        notSettled("in the 20th", Make.with(told(20, 0, 0, 7, 5, 0, 0, 10, 5, 14)));
        notSettled("of one, so there are none of the others",
                Make.with(told(20, 0, 0, 1, 5, 0), told(20, 4, 1, 9, 5, 0, 1, 10, 5, 0), told(20, 0, 0, 1, 5, 0)));
    }

    // Terms: "or the 20th changes any, it is not": the 20th that changes none settles it.
    private static void roundsUpTo20() {
        OffsetChains x = Make.with(told(20, 22, 0, 2, 5, 0, 0, 9, 5, 0));
        due.is("the 20th changes none", x.rounds(), 20);
        due.is("the 20th changes none", x.count(1), 1);
        answers("the 20th changes none", x, 0, 0, 132, 132, 132);
        answers("the 20th changes none", x, 0, 1, 145, 145, 145);
        // The 21st would change none.
        notSettled("the 20th changes one", Make.with(told(20, 23, 0, 4, 5, 0, 0, 9, 5, 0)));
    }

    // Terms: "there are no BOUNDS, no LATES": nor what rests on them.
    private static void noBoundsNoLates() {
        OffsetChains x = Make.with(told(20, 0, 0, 10, 5, 0), told(20, 0, 0, 11, 5, 0), told(20, 7, 1, 1, 5, 0));
        for (int i = 0; i < 3; i++) {
            x.chain(i, 2, 200);
        }
        notSettled("one is ENDLESS", x);
        due.is("meets()", x.meets(), 0);
        due.is("count(2)", x.count(2), 0);
        x.sheet(0, 1, 4);
        due.is("write()", x.write(0), 3);
        for (int item = 0; item < 4; item++) {
            due.is("written", x.get(0, 1, item), item < 3 ? NONE : 0);
        }
        // When it settles again, they are there again.
        x.back(1);
        answers("settled again", x, 2, 0, 8, 8, 8);
        due.is("settled again", x.info(2, 0, 5), 7);
        due.is("settled again", x.meets(), 5);
    }

    // Terms: "BOUNDS, LATES are those of the last ROUND."
    private static void ofTheLastRound() {
        // In the first ROUND its second has no LATE and a BOUND of 9, in the last one of 5 and 15.
        OffsetChains x = Make.with(told(20, 0, 0, 5, 5, 0, 0, 4, 5, 0), told(100, 0, 0, 1, 5, 0));
        due.is("rounds", x.rounds(), 2);
        due.is("LATE", x.info(0, 1, 5), 5);
        due.is("BOUND", x.bound(0, 1), 15);
        worst("of the last", x, 0, 1, 1, 0, 5);
    }

    // 2: "one MOMENT of each other CHAIN (that has any) is chosen": none, in one, in both others.
    private static void searchedOfChainsThatHaveMoments() {
        OffsetChains x = Make.with(told(100, 0, 0, 5, 5, 0), told(100, 0, 0, 3, 5, 0), told(100, 0, 0, 2, 5, 0));
        due.is("both others", x.searched(0, 0), 10);
        x.tune(1, 0, 2, 4);
        due.is("one has none", x.searched(0, 0), 7);
        x.tune(2, 0, 0, 1);
        due.is("none has any", x.searched(0, 0), 5);
        x.back(1);
        x.back(2);
        due.is("no other STEPS", x.searched(0, 0), 5);
        x.step(2, 0, 4, 5, 0);
        due.is("the last alone", x.searched(0, 0), 9);
    }

    // 2: "the greatest ANSWER by all ways to choose": by the second of both other chains.
    private static void searchedByAllWays() {
        OffsetChains x = Make.with(told(100, 0, 0, 5, 1, 0), told(100, 0, 0, 1, 9, 0, 0, 10, 9, 20),
                told(100, 0, 0, 2, 8, 0, 0, 12, 8, 20));
        // 5 and 1 and 2, 5 and 10 and 2, 5 and 1 and 12, 5 and 10 and 12.
        due.is("by the last of four ways", x.searched(0, 0), 27);
        x = Make.with(told(100, 0, 0, 5, 1, 0), told(100, 0, 0, 10, 9, 0, 0, 1, 9, 20),
                told(100, 0, 0, 12, 8, 0, 0, 2, 8, 20));
        due.is("by the first of four ways", x.searched(0, 0), x.bound(0, 0));
        // As the second of these, and as the third: the others have a CHAIN ahead, or two.
        int[] one = told(100, 0, 0, 1, 9, 0, 0, 10, 9, 20);
        int[] other = told(100, 0, 0, 2, 8, 0, 0, 12, 8, 20);
        int[] it = told(100, 0, 0, 5, 1, 0);
        answers("as the second", Make.with(one, it, other), 1, 0, 30, 27, 30);
        answers("as the third", Make.with(one, other, it), 2, 0, 30, 27, 30);
        answers("as the third, the others turned", Make.with(other, one, it), 2, 0, 30, 27, 30);
    }

    // 2: "one MOMENT of each other CHAIN (that has any) is chosen": of all three STEPS of both.
    private static void searchedByNineWays() {
        int[] one = told(100, 0, 0, 2, 9, 0, 0, 4, 9, 20, 0, 9, 9, 20);
        int[] other = told(100, 0, 0, 3, 8, 0, 0, 5, 8, 20, 0, 8, 8, 20);
        int[] it = told(100, 0, 0, 2, 1, 0);
        // By the last of both 2 and 9 and 8. Of the other the last may come 16 behind the second, so BOUND takes 13.
        answers("as the first", Make.with(it, one, other), 0, 0, 24, 19, 33);
        answers("as the second", Make.with(one, it, other), 1, 0, 24, 19, 33);
        answers("as the third", Make.with(one, other, it), 2, 0, 24, 19, 33);
    }

    // 2: "in place of OTHERS one MOMENT of each other CHAIN is chosen, its WORK taken for all t".
    private static void searchedTakesOneMomentForAllTimes() {
        OffsetChains x = Make.with(told(76, 0, 0, 1, 4, 9), told(45, 0, 0, 11, 4, 1, 0, 15, 4, 3));
        // By the first 1 and 11, by the second 1 and 15: within 16 BOUND takes both of them, 1 and 26.
        answers("two moments", x, 0, 0, 27 + 9, 16 + 9, 27 + 9);
        x = Make.with(told(100, 0, 0, 5, 5, 0), told(20, 0, 0, 7, 5, 0));
        answers("of one moment it is as BOUND", x, 0, 0, 12, 12, 12);
    }

    // 2: SEARCHED: "NONE, if a BUSY, or an END, is none up to 200": 200 is one.
    private static void searchedUpTo200() {
        due.is("BUSY of 200", Make.with(told(23, 30, 0, 20, 5, 0)).searched(0, 0), 50);
        due.is("BUSY of 201", Make.with(told(20, 19, 0, 15, 5, 0), told(70, 0, 0, 12, 5, 0)).searched(0, 0), NONE);
    }

    // Promise 11: "SEARCHED; NONE (also if it is not SETTLED)."
    private static void searchedIsNone() {
        OffsetChains x = Make.with(told(20, 23, 0, 4, 5, 0, 0, 9, 5, 0), told(20, 0, 1, 3, 5, 0));
        due.is("not SETTLED", x.searched(0, 0), NONE);
        due.is("not SETTLED", x.searched(0, 1), NONE);
        due.is("not SETTLED, but alone on its node", x.searched(1, 0), NONE);
        x.back(0);
        due.is("SETTLED", x.searched(0, 0), 27);
        due.is("SETTLED", x.searched(1, 0), 3);
    }

    // 2: "COMES of a STEP within t, here: LATE and t together by T, rounded up": at T once, at T and 1 twice.
    private static void quickIsRoundedUp() {
        due.is("T of it", Make.with(told(100, 0, 0, 3, 5, 0), told(20, 16, 0, 1, 5, 0)).quick(0, 0), 4);
        due.is("T and 1 of it", Make.with(told(100, 0, 0, 3, 5, 0), told(20, 17, 0, 1, 5, 0)).quick(0, 0), 5);
        due.is("T twice", Make.with(told(100, 0, 0, 3, 5, 0), told(15, 25, 0, 1, 5, 0)).quick(0, 0), 5);
        due.is("T twice and 1", Make.with(told(100, 0, 0, 3, 5, 0), told(15, 26, 0, 1, 5, 0)).quick(0, 0), 6);
    }

    // 2: QUICK: "of RIVALS how often each COMES within t, times its COST, together": it knows no offsets, nor moments.
    private static void quickTakesAllItsChain() {
        answers("its own chain", Make.with(told(20, 0, 0, 5, 5, 0, 0, 4, 5, 0)), 0, 0, 5, 5, 9);
        OffsetChains x = Make.with(told(76, 0, 0, 1, 4, 9), told(45, 0, 0, 11, 4, 1, 0, 15, 4, 3));
        answers("another chain", x, 0, 0, 36, 25, 36);
        answers("not the less urgent", Make.with(told(20, 0, 0, 5, 5, 0, 0, 4, 4, 0)), 0, 0, 5, 5, 5);
    }

    // 2: QUICK: "for each Q from 0 on, less than x COMES within BUSY": the first, a later one is the greatest.
    private static void quickQs() {
        due.is("the first", Make.with(told(10, 15, 0, 4, 2, 3)).quick(0, 0), 4 + 15 + 3);
        // Of three within 149 the second ends at 108: 108 less 50.
        due.is("the second", Make.with(told(50, 0, 0, 15, 4, 0), told(20, 6, 0, 13, 5, 0)).quick(0, 0), 58);
    }

    // 2: QUICK: "NONE as there": a BUSY of 200 is one, of 201 is none, though there is a BOUND.
    private static void quickUpTo200() {
        due.is("BUSY of 200", Make.with(told(23, 30, 0, 20, 5, 0)).quick(0, 0), 50);
        // With LATE of 18 and 53 within 201: 11 times 10, and 13 times 7.
        OffsetChains x = Make.with(told(20, 18, 0, 10, 5, 0, 0, 7, 5, 3));
        due.is("LATE of the second", x.info(0, 1, 5), 53);
        answers("BUSY of 201", x, 0, 0, 63, 63, NONE);
    }

    // Promise 12: "QUICK; NONE".
    private static void quickIsNone() {
        // A LOAD of 1, and its second comes late: there is always one waiting.
        OffsetChains x = Make.with(told(20, 0, 0, 11, 5, 0, 0, 9, 5, 10));
        answers("no BUSY at all", x, 0, 0, 20, 20, NONE);
        answers("no BUSY at all", x, 0, 1, 40, 40, NONE);
    }

    // Promise 12: "(also if it is not SETTLED)".
    private static void quickIsNoneIfNotSettled() {
        OffsetChains x = Make.with(told(20, 23, 0, 4, 5, 0, 0, 9, 5, 0), told(20, 0, 1, 3, 5, 0));
        due.is("not SETTLED", x.quick(0, 0), NONE);
        due.is("not SETTLED, but alone on its node", x.quick(1, 0), NONE);
        x.back(0);
        due.is("SETTLED", x.quick(1, 0), 3);
    }

    // Promise 13: "NONE: it is not."
    private static void roundsIsNone() {
        OffsetChains x = Make.with(told(5, 0, 0, 5, 5, 0));
        due.is("it is", x.rounds(), 1);
        x.tune(0, 0, 1, 6);
        due.is("it is not", x.rounds(), NONE);
        x.back(0);
        due.is("it is again", x.rounds(), 1);
    }

    // Terms: "WORST of x: the MOMENT k, the Q of the greatest ANSWER by which BOUND is told, of like ones the least k".
    private static void worstTakesTheLeastMoment() {
        // By the first 20 less 4 and 20 and 4, by itself 16 and 20 and 4.
        OffsetChains x = Make.with(told(43, 20, 0, 4, 6, 0, 0, 16, 5, 0));
        due.is("40 by both", x.bound(0, 1), 40);
        worst("40 by both", x, 0, 1, 0, 0, 20);
    }

    // Terms: "of like ones the least k, then the least Q": the least k with a Q of 1 is ahead of a greater k with one
    // of 0.
    private static void worstTakesTheLeastMomentAheadOfTheLeastQ() {
        OffsetChains x = Make.with(told(9, 0, 0, 2, 5, 0, 0, 3, 5, 0), told(20, 0, 0, 5, 5, 0));
        due.is("20 by both", x.bound(0, 0), 20);
        worst("20 by both", x, 0, 0, 0, 1, 36);
    }

    // Terms: "then the least Q".
    private static void worstTakesTheLeastQ() {
        OffsetChains x = Make.with(told(20, 0, 0, 15, 5, 0), told(62, 0, 0, 6, 5, 0, 0, 5, 5, 0));
        due.is("31 by more than one", x.bound(0, 0), 31);
        worst("31 by more than one", x, 0, 0, 0, 0, 158);
    }

    // Promise 14: "WORST: which STEP of the CHAIN is the MOMENT (what = 0), Q (1), BUSY by that (2)": of the last chain
    // it is 0 to 2, too.
    private static void worstIsAStepOfTheChain() {
        OffsetChains x = Make.with(told(20, 0), told(20, 0), told(100, 0, 0, 3, 5, 0, 1, 4, 5, 0, 0, 5, 4, 20));
        worst("the first", x, 2, 0, 0, 0, 3);
        worst("the second", x, 2, 1, 1, 0, 4);
        worst("the third", x, 2, 2, 2, 0, 5);
    }

    // Promise 14: "NONE: there is no BOUND."
    private static void worstIsNone() {
        OffsetChains x = Make.with(told(20, 0, 0, 10, 5, 0), told(20, 0, 1, 3, 5, 0));
        worst("there is one", x, 1, 0, 0, 0, 3);
        x.step(0, 0, 11, 5, 0);
        worst("there is none", x, 0, 0, NONE, NONE, NONE);
        worst("there is none", x, 1, 0, NONE, NONE, NONE);
    }

    // Terms: "A CHAIN that has STEPS and a DEADLINE MEETS it": one without STEPS does not, until it has one.
    private static void meetsHasSteps() {
        OffsetChains x = new OffsetChains();
        x.chain(1, 2, 200);
        due.is("no STEPS", x.meets(), 0);
        x.step(1, 0, 1, 0, 0);
        due.is("a STEP", x.meets(), 2);
        x.back(1);
        due.is("no STEPS any more", x.meets(), 0);
    }

    // Terms: "A CHAIN that has STEPS and a DEADLINE MEETS it": "0 at first: none", 1 is one.
    private static void meetsHasADeadline() {
        OffsetChains x = Make.with(told(20, 0, 0, 1, 5, 0), told(20, 0, 1, 2, 5, 0));
        due.is("none at first", x.meets(), 0);
        x.chain(0, 2, 1);
        x.chain(1, 2, 1);
        due.is("1 is one, and one is no more", x.meets(), 1);
        x.chain(0, 2, 0);
        due.is("0 is none again", x.meets(), 0);
        due.is("0 is none again", x.count(2), 0);
    }

    // Terms: "if there are BOUNDS, and that of its last STEP is no more": as much meets it, 1 more does not.
    private static void meetsItsLastStep() {
        OffsetChains x = Make.with(told(50, 0, 0, 20, 5, 0, 1, 5, 5, 0));
        int[][] told = {{24, 0}, {25, 1}, {26, 1}, {200, 1}, {20, 0}, {1, 0}};
        for (int[] by : told) {
            x.chain(0, 2, by[0]);
            due.is("DEADLINE " + by[0] + ", BOUND 25", x.meets(), by[1]);
        }
        x.chain(0, 2, 20);
        x.back(0);
        due.is("DEADLINE 20, its last is the first now", x.meets(), 1);
        x = Make.with(told(100, 0, 0, 20, 9, 20, 0, 20, 8, 20, 0, 20, 7, 20), told(100, 10, 1, 1, 0, 0));
        x.chain(0, 2, 120);
        due.is("BOUND 120", x.meets(), 1);
        x.chain(0, 2, 119);
        due.is("BOUND 120", x.meets(), 0);
    }

    // Terms: "MEETS it, if there are BOUNDS".
    private static void meetsIfThereAreBounds() {
        OffsetChains x = Make.with(told(20, 0, 0, 1, 5, 0), told(20, 0, 1, 10, 5, 0));
        x.chain(0, 2, 200);
        due.is("there are", x.meets(), 1);
        x.step(1, 1, 11, 5, 0);
        due.is("there are none", x.meets(), 0);
        due.is("there are none", x.count(2), 0);
    }

    // Promise 15: "CHAINS that MEET their DEADLINE, as bits."
    private static void meetsAsBits() {
        OffsetChains x = Make.with(told(50, 0, 0, 1, 5, 0), told(50, 0, 1, 1, 5, 0), told(50, 0, 0, 1, 6, 0));
        for (int bits = 0; bits < 8; bits++) {
            for (int i = 0; i < 3; i++) {
                x.chain(i, 2, (bits >> i & 1) * 9);
            }
            due.is("those that have one", x.meets(), bits);
            due.is("how many", x.count(2), Integer.bitCount(bits));
        }
    }

    // Terms: "MARGIN of a STEP: the greatest of 0 to 8 that can come to its COST".
    private static void marginIsFrom0To8() {
        OffsetChains x = Make.with(told(100, 0, 0, 5, 5, 0));
        int[][] told = {{5, 0}, {6, 1}, {12, 7}, {13, 8}, {14, 8}, {200, 8}, {4, NONE}, {1, NONE}};
        for (int[] by : told) {
            x.chain(0, 2, by[0]);
            due.is("DEADLINE " + by[0], x.margin(0, 0), by[1]);
        }
        due.is("its COST stays", x.info(0, 0, 1), 5);
    }

    // Terms: "the greatest of 0 to 8 .. so that all CHAINS .. MEET it": also if less of it does not, or none.
    private static void marginIsTheGreatest() {
        // With 0 to 8 more for its second the BOUND is 56 to 62, then there is none, then it is 116.
        OffsetChains x = Make.with(told(62, 0, 0, 18, 5, 0, 0, 18, 5, 20));
        int[][] told = {{116, 8}, {115, 6}, {62, 6}, {61, 5}, {56, 0}, {55, NONE}};
        for (int[] by : told) {
            x.chain(0, 2, by[0]);
            due.is("DEADLINE " + by[0], x.margin(0, 1), by[1]);
        }
        // With 0 to 8 more for the first of chain 1 the BOUND of chain 0 is 22, 13, 13, 14, and so on up to 19.
        x = Make.with(told(53, 0, 0, 2, 5, 0), told(50, 0, 0, 9, 5, 0, 0, 11, 5, 3));
        told = new int[][] {{12, NONE}, {13, 2}, {14, 3}, {18, 7}, {19, 8}, {21, 8}, {22, 8}};
        for (int[] by : told) {
            x.chain(0, 2, by[0]);
            due.is("DEADLINE " + by[0], x.margin(1, 0), by[1]);
        }
    }

    // Terms: "so that all CHAINS that have STEPS and a DEADLINE MEET it".
    private static void marginOfAllChains() {
        OffsetChains x = Make.with(told(100, 0, 0, 5, 9, 0), told(100, 0, 0, 5, 8, 0), told(100, 0));
        x.chain(0, 2, 12);
        due.is("its own", x.margin(0, 0), 7);
        x.chain(1, 2, 13);
        due.is("another's, too", x.margin(0, 0), 3);
        due.is("of that one", x.margin(1, 0), 3);
        x.chain(1, 2, 9);
        due.is("another does not meet it", x.margin(0, 0), NONE);
        x.chain(1, 2, 0);
        due.is("another has no DEADLINE", x.margin(0, 0), 7);
        x.chain(2, 2, 1);
        due.is("another has no STEPS", x.margin(0, 0), 7);
        x.step(2, 1, 2, 0, 0);
        due.is("another has one that is late", x.margin(0, 0), NONE);
    }

    // Terms: "all CHAINS that have STEPS and a DEADLINE": there is none, so all do, settled or not.
    private static void marginWithoutDeadlines() {
        OffsetChains x = Make.with(told(20, 0, 0, 5, 5, 0), told(20, 0));
        due.is("no DEADLINES", x.margin(0, 0), 8);
        x.chain(1, 2, 1);
        due.is("a DEADLINE, but no STEPS", x.margin(0, 0), 8);
        x.chain(0, 0, 5);
        x.chain(0, 1, 30);
        due.is("not SETTLED", x.rounds(), NONE);
        due.is("not SETTLED", x.margin(0, 0), 8);
    }

    // Terms: "NONE: none", and promise 16: "MARGIN; NONE."
    private static void marginIsNone() {
        OffsetChains x = Make.with(told(5, 0, 0, 6, 5, 0));
        x.chain(0, 2, 200);
        due.is("no BOUNDS", x.margin(0, 0), NONE);
        x.tune(0, 0, 1, 5);
        due.is("with no more there are BOUNDS", x.margin(0, 0), 0);
        x.chain(0, 2, 4);
        due.is("too late already", x.margin(0, 0), NONE);
    }

    // Terms: "BETTER: the PRIORITY (0 to 9), in place of what it is".
    private static void betterIsFrom0To9() {
        OffsetChains x = Make.with(told(50, 0, 0, 5, 5, 0), told(50, 0, 0, 4, 8, 0));
        due.is("9 is one more than 8", x.better(0, 0, 0), 9);
        due.is("alone by 9", x.better(0, 0, 1), 5);
        due.is("it stays what it is", x.info(0, 0, 2), 5);
        x.tune(1, 0, 2, 9);
        due.is("none is more than 9", x.better(0, 0, 0), 0);
        due.is("none is more than 9", x.better(0, 0, 1), 9);
        x.tune(1, 0, 2, 0);
        due.is("1 is one more than 0", x.better(0, 0, 0), 1);
        due.is("1 is one more than 0", x.better(0, 0, 1), 5);
    }

    // Terms: "by which BOUND of the last STEP of its CHAIN is least, of like ones the least".
    private static void betterIsTheLeastOfLikeOnes() {
        for (int priority : new int[] {0, 5, 9}) {
            OffsetChains x = Make.with(told(50, 0, 0, 5, priority, 0));
            due.is("all alike", x.better(0, 0, 0), 0);
            due.is("all alike", x.better(0, 0, 1), 5);
        }
        OffsetChains x = Make.with(told(50, 0, 0, 5, 9, 0), told(50, 0, 0, 4, 3, 0), told(50, 0, 0, 2, 6, 0));
        due.is("from 7 on alike", x.better(0, 0, 0), 7);
        due.is("from 7 on alike", x.better(0, 0, 1), 5);
    }

    // Terms: "BOUND of the last STEP of its CHAIN": of another STEP, and of itself.
    private static void betterOfTheLastStep() {
        OffsetChains x = Make.with(told(50, 0, 0, 4, 5, 0, 1, 3, 2, 0), told(50, 0, 0, 5, 5, 0),
                told(50, 0, 1, 6, 2, 0));
        due.is("of the first", x.better(0, 0, 0), 6);
        due.is("of the first, for the last", x.better(0, 0, 1), 13);
        due.is("of the last", x.better(0, 1, 0), 3);
        due.is("of the last, for itself", x.better(0, 1, 1), 12);
        due.is("of the only one", x.better(1, 0, 0), 6);
        due.is("of the only one", x.better(1, 0, 1), 5);
    }

    // Terms: "by which BOUND .. is least": those by which there is none are passed over.
    private static void betterPassesOverEndlessOnes() {
        OffsetChains x = Make.with(told(20, 0, 0, 12, 4, 0, 0, 8, 3, 7));
        x.tune(0, 0, 2, 3);
        due.is("ENDLESS as it is", x.bound(0, 1), NONE);
        due.is("4 is the first by which there are BOUNDS", x.better(0, 0, 0), 4);
        due.is("4 is the first by which there are BOUNDS", x.better(0, 0, 1), 39);
        due.is("ENDLESS as it is", x.bound(0, 1), NONE);
    }

    // Terms: "NONE: by none there are BOUNDS", and promise 17: "BETTER: which PRIORITY (what = 0), that BOUND (1);
    // NONE."
    private static void betterIsNone() {
        OffsetChains x = Make.with(told(20, 0, 0, 10, 5, 0), told(20, 0, 0, 11, 5, 0), told(20, 0, 1, 1, 5, 0));
        for (int i = 0; i < 3; i++) {
            due.is("by none there are BOUNDS", x.better(i, 0, 0), NONE);
            due.is("by none there are BOUNDS", x.better(i, 0, 1), NONE);
        }
        due.is("what", x.better(0, 0, 2), BAD);
        x.tune(1, 0, 1, 10);
        due.is("there are", x.better(0, 0, 0), 6);
    }
}
