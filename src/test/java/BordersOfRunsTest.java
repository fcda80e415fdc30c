/**
 * Promises 18 to 20, and the term RUN, at their borders: a test of its own for each sentence of the document that names
 * one. The remark ahead of a test says which promise, or which part, and which sentence it holds. What is refused by
 * them stands in BordersOfRefusalsTest.
 */
public final class BordersOfRunsTest {
    private static final int NONE = OffsetChains.NONE, BAD = OffsetChains.BAD;

    private static final Due due = new Due("BordersOfRunsTest");

    public static void main(String[] args) {
        ticksAre0ToHLess1();
        hIs1To300();
        releasedAtPhase();
        releasedEveryPeriod();
        lastReleases();
        readyFromLagOn();
        strideIsModuloJitterAnd1();
        strideWithoutJitter();
        notAheadOfTheOneBefore();
        anotherStepFromTheEndOn();
        anotherStepIsNotReadyInTheSameTick();
        eachNodeDoesATick();
        theGreatestPriority();
        ofLikeOnesTheLeastNumber();
        ofTheseTheEarliestN();
        itEndsAtTheTickBehind();
        seenFromReleaseToEnd();
        seenOfThoseThatEndedInTheRun();
        numbersOfSteps();
        runAnswersHowManyEnded();
        aRefusedRunIsNone();
        theLatestRun();
        seenIsNone();
        seenOfTheStepThatHadTheNumber();
        tickIsNoneBehindTheRun();
        tickIsFrom0To299();
        due.end();
    }

    /** What a node did from tick 0 on: a number, or a dot for NONE. */
    private static void did(String what, OffsetChains x, int node, String told) {
        for (int t = 0; t < told.length(); t++) {
            int step = told.charAt(t) == '.' ? NONE : told.charAt(t) - '0';
            due.is(what + ": tick(" + node + ", " + t + ")", x.tick(node, t), step);
        }
    }

    private static void seen(String what, OffsetChains x, int i, int j, int most, int least, int many) {
        due.is(what + ": seen(" + i + ", " + j + ", 0)", x.seen(i, j, 0), most);
        due.is(what + ": seen(" + i + ", " + j + ", 1)", x.seen(i, j, 1), least);
        due.is(what + ": seen(" + i + ", " + j + ", 2)", x.seen(i, j, 2), many);
    }

    // Terms: "A RUN is of TICKS 0 to H less 1."
    private static void ticksAre0ToHLess1() {
        OffsetChains x = Make.with(new int[] {5, 0, 0, 5, 5, 0});
        int[] hs = {1, 2, 7, 59, 60, 61, 299, 300};
        for (int h : hs) {
            x.run(h);
            due.is("of " + h + ": count(6)", x.count(6), h);
            due.is("of " + h + ", the first", x.tick(0, 0), 0);
            due.is("of " + h + ", the last", x.tick(0, h - 1), 0);
            due.is("of " + h + ", the one behind", x.tick(0, h), h < 300 ? NONE : BAD);
            due.is("of " + h + ", never idle", x.count(4), 0);
            due.is("of " + h + ", always idle", x.count(5), h);
        }
    }

    // Promise 18: "A RUN, H (1 to 300)".
    private static void hIs1To300() {
        OffsetChains x = Make.with(new int[] {5, 0, 0, 1, 5, 0});
        due.is("run(1)", x.run(1), 1);
        due.is("run(300)", x.run(300), 60);
        for (int h : Make.outside(1, 300)) {
            due.is("run(" + h + ")", x.run(h), BAD);
        }
    }

    // Terms: "The n-th (0 on) of a CHAIN is released at PHASE and n times T": none ahead of it; 0 and 99.
    private static void releasedAtPhase() {
        OffsetChains x = Make.with(new int[] {100, 0, 0, 1, 5, 0});
        int[] phases = {0, 1, 98, 99};
        for (int phase : phases) {
            x.chain(0, 3, phase);
            due.is("PHASE " + phase + ", H as much", phase == 0 ? 0 : x.run(phase), 0);
            due.is("PHASE " + phase + ", H 1 more", x.run(phase + 1), 1);
            due.is("PHASE " + phase, x.tick(0, phase), 0);
            due.is("PHASE " + phase + ", 1 ahead", phase == 0 ? NONE : x.tick(0, phase - 1), NONE);
            seen("PHASE " + phase, x, 0, 0, 1, 1, 1);
        }
    }

    // Terms: "at PHASE and n times T": T of 5 and of 100.
    private static void releasedEveryPeriod() {
        OffsetChains x = Make.with(new int[] {5, 0, 0, 1, 5, 0}, new int[] {100, 0, 1, 1, 5, 0});
        x.chain(0, 3, 2);
        x.chain(1, 3, 99);
        x.run(300);
        did("T of 5, PHASE of 2", x, 0, "..0....0....0....0.");
        due.is("T of 5, the last", x.tick(0, 297), 0);
        seen("T of 5", x, 0, 0, 1, 1, 60);
        for (int t = 97; t <= 101; t++) {
            due.is("T of 100, PHASE of 99", x.tick(1, t), t == 99 ? 3 : NONE);
            due.is("T of 100, the second", x.tick(1, t + 100), t == 99 ? 3 : NONE);
        }
        due.is("T of 100, the third", x.tick(1, 299), 3);
        seen("T of 100", x, 1, 0, 1, 1, 3);
    }

    // Terms: "released at PHASE and n times T", within "TICKS 0 to H less 1": at H less 1 it is done yet, at H not.
    private static void lastReleases() {
        OffsetChains x = Make.with(new int[] {20, 0, 0, 1, 5, 0});
        due.is("the third at 40, H of 40", x.run(40), 2);
        due.is("the third at 40, H of 41", x.run(41), 3);
        x.chain(0, 0, 5);
        due.is("the 60th at 295, H of 295", x.run(295), 59);
        due.is("the 60th at 295, H of 296", x.run(296), 60);
        due.is("the 61st at 300", x.run(300), 60);
    }

    // Terms: "its STEP 0 is READY from then and LAG .. on": 0 and 20.
    private static void readyFromLagOn() {
        OffsetChains x = Make.with(new int[] {30, 0, 0, 1, 5, 0});
        due.is("LAG of 0", x.run(1), 1);
        seen("LAG of 0", x, 0, 0, 1, 1, 1);
        x.tune(0, 0, 3, 20);
        due.is("LAG of 20, a tick too few", x.run(20), 0);
        due.is("LAG of 20", x.run(21), 1);
        due.is("LAG of 20", x.tick(0, 20), 0);
        due.is("LAG of 20", x.tick(0, 19), NONE);
        seen("LAG of 20", x, 0, 0, 21, 21, 1);
        x = Make.with(new int[] {30, 0, 0, 1, 5, 0}, new int[] {30, 0, 0, 1, 5, 3}, new int[] {30, 0, 0, 1, 5, 20});
        x.run(30);
        did("each CHAIN has its own", x, 0, "0..3................6.........");
    }

    // Terms: "and n times STRIDE modulo (JITTER and 1) on": it comes up to JITTER, and is 0 again with 1 more.
    private static void strideIsModuloJitterAnd1() {
        OffsetChains x = Make.with(new int[] {10, 2, 0, 1, 5, 0});
        x.chain(0, 4, 1);
        x.run(60);
        did("0, 1, 2, and again", x, 0, "0..........0..........0.......0..........0..........0");
        x.chain(0, 4, 2);
        x.run(60);
        did("0, 2, 1, and again", x, 0, "0...........0........0........0...........0........0");
        x.chain(0, 4, 3);
        x.run(60);
        did("just JITTER and 1, so it is always 0", x, 0, "0.........0.........0.........0.........0.........0");
        x.chain(0, 4, 4);
        x.run(60);
        did("one more is as 1", x, 0, "0..........0..........0.......0..........0..........0");
        // 9 times n modulo 31: 0, 9, 18, 27, 5, 14.
        x = Make.with(new int[] {50, 30, 0, 1, 5, 0});
        x.chain(0, 4, 9);
        x.run(300);
        seen("the most of both", x, 0, 0, 28, 1, 6);
        int[] ready = {0, 59, 118, 177, 205, 264};
        for (int t : ready) {
            due.is("the most of both, at " + t, x.tick(0, t), 0);
        }
    }

    // Terms: "n times STRIDE modulo (JITTER and 1)": JITTER of 0; and STRIDE of 0.
    private static void strideWithoutJitter() {
        OffsetChains x = Make.with(new int[] {10, 0, 0, 1, 5, 0});
        x.chain(0, 4, 9);
        x.run(60);
        did("no JITTER", x, 0, "0.........0.........0.........0.........0.........0");
        x.chain(0, 4, 0);
        x.chain(0, 1, 30);
        x.run(60);
        did("no STRIDE", x, 0, "0.........0.........0.........0.........0.........0");
    }

    // Terms: "but not ahead of that of the one before".
    private static void notAheadOfTheOneBefore() {
        OffsetChains x = Make.with(new int[] {5, 9, 0, 1, 5, 0});
        x.chain(0, 4, 9);
        // By themselves 0, 14, 18, 22, 26, 30, 34, 38, 42, 46, and 50: each behind the one before.
        x.run(51);
        did("all behind the one before", x, 0, "0.............0...0...0...0...0...0...0...0...0...0");
        x = Make.with(new int[] {5, 5, 0, 1, 5, 0});
        x.chain(0, 4, 5);
        // By themselves 0, 10, 14, 18, 22, 26, 30 and 40.
        x.run(42);
        did("the next 10 behind", x, 0, "0.........0...0...0...0...0...0.........0.");
        x = Make.with(new int[] {5, 5, 0, 1, 5, 0});
        x.chain(0, 4, 9);
        // By themselves 0, 5 and 3, 10 and 0, 15 and 3.
        x.run(30);
        did("3 behind, 0 behind", x, 0, "0.......0.0.......0.0.......0.");
        x = Make.with(new int[] {5, 8, 0, 1, 5, 0});
        x.chain(0, 4, 7);
        // By themselves 0, 12, 15, 18, 21, 33, 36, 39, and 42, then 45, 57.
        x.run(60);
        did("behind, and behind", x, 0, "0...........0..0..0..0...........0..0..0..0..0...........0..");
        x = Make.with(new int[] {5, 12, 0, 1, 5, 0});
        x.chain(0, 4, 6);
        // By themselves 0, 11, 22, 20 (so 22, too), 31, 29 (so 31, too), 40, 38 (so 40), 49, 47.
        x.run(54);
        did("as late as the one before", x, 0, "0..........0..........00.......00.......00.......00...");
        seen("as late as the one before", x, 0, 0, 13, 1, 10);
    }

    // Terms: "another STEP from the end of the one before it and LAG on": 0 and 20.
    private static void anotherStepFromTheEndOn() {
        OffsetChains x = Make.with(new int[] {50, 0, 0, 2, 5, 0, 0, 3, 5, 0, 0, 1, 5, 20});
        x.run(50);
        did("LAGS of 0 and 20", x, 0, "00111....................2........................");
        seen("LAG of 0", x, 0, 1, 5, 5, 1);
        seen("LAG of 20", x, 0, 2, 26, 26, 1);
        due.is("a tick too few", x.run(25), 2);
        due.is("just enough", x.run(26), 3);
    }

    // Terms: "another STEP from the end of the one before": it ends "at the TICK behind", so on no NODE ahead of that.
    private static void anotherStepIsNotReadyInTheSameTick() {
        OffsetChains x = Make.with(new int[] {50, 0, 0, 1, 5, 0, 1, 1, 5, 0, 0, 1, 5, 0});
        x.run(4);
        did("from node 0 on to 1", x, 0, "0.2.");
        did("from node 0 on to 1", x, 1, ".1..");
        for (int j = 0; j < 3; j++) {
            x.tune(0, j, 0, 1 - x.info(0, j, 0));
        }
        x.run(4);
        did("from node 1 on to 0", x, 1, "0.2.");
        did("from node 1 on to 0", x, 0, ".1..");
    }

    // Terms: "In each TICK each NODE does a TICK of the STEP": both in the same tick, or one, or none.
    private static void eachNodeDoesATick() {
        OffsetChains x = Make.with(new int[] {10, 0, 0, 2, 5, 0}, new int[] {10, 0, 1, 3, 5, 0});
        x.run(20);
        did("node 0", x, 0, "00........00........");
        did("node 1", x, 1, "333.......333.......");
        due.is("node 0 idle", x.count(4), 16);
        due.is("node 1 idle", x.count(5), 14);
    }

    // Terms: "with the greatest PRIORITY": 0 and 9, 1 more, in the midst of another.
    private static void theGreatestPriority() {
        OffsetChains x = Make.with(new int[] {50, 0, 0, 4, 0, 0}, new int[] {50, 0, 0, 2, 9, 0});
        x.run(10);
        did("9 ahead of 0", x, 0, "330000....");
        x.tune(0, 0, 2, 9);
        x.tune(1, 0, 2, 8);
        x.run(10);
        did("9 ahead of 8", x, 0, "000033....");
        x.tune(1, 0, 2, 9);
        x.tune(0, 0, 2, 8);
        x.chain(1, 3, 3);
        x.run(10);
        did("9 in the midst of 8", x, 0, "000330....");
        seen("stopped", x, 0, 0, 6, 6, 1);
    }

    // Terms: "of like ones the least number": of other chains, of its own, also in the midst of another.
    private static void ofLikeOnesTheLeastNumber() {
        int[] one = {50, 0, 0, 2, 5, 0};
        OffsetChains x = Make.with(one, one, one);
        x.run(10);
        did("of three alike", x, 0, "003366....");
        x.chain(0, 3, 1);
        x.run(10);
        did("in the midst of another", x, 0, "300366....");
        x = Make.with(new int[] {5, 0, 0, 4, 5, 0, 0, 1, 5, 0});
        x.run(13);
        did("of its own chain", x, 0, "0000100001000");
        x = Make.with(new int[] {5, 0, 0, 4, 5, 0, 0, 1, 5, 2});
        x.run(15);
        did("its own chain is released again", x, 0, "0000.0000100001");
    }

    // Terms: "of these the earliest n": the first that waits ends first.
    private static void ofTheseTheEarliestN() {
        OffsetChains x = Make.with(new int[] {5, 0, 0, 2, 4, 0}, new int[] {100, 0, 0, 9, 5, 0});
        x.run(15);
        // The first ends at 11, the second, released at 5, at 13, the third, released at 10, at 15.
        did("two wait", x, 0, "333333333000000");
        seen("two wait", x, 0, 0, 11, 5, 3);
        x.run(13);
        seen("the first and the second", x, 0, 0, 11, 8, 2);
        x.run(12);
        seen("the first alone", x, 0, 0, 11, 11, 1);
    }

    // Terms: "when it has done COST it ends, at the TICK behind": COST of 1 and of 20, at the end of the run.
    private static void itEndsAtTheTickBehind() {
        OffsetChains x = Make.with(new int[] {100, 0, 0, 1, 5, 0});
        due.is("COST of 1", x.run(1), 1);
        seen("COST of 1", x, 0, 0, 1, 1, 1);
        x.tune(0, 0, 1, 20);
        due.is("COST of 20, a tick too few", x.run(19), 0);
        due.is("COST of 20", x.run(20), 1);
        seen("COST of 20", x, 0, 0, 20, 20, 1);
        x.run(21);
        due.is("COST of 20, the last tick", x.tick(0, 19), 0);
        due.is("COST of 20, the tick behind", x.tick(0, 20), NONE);
    }

    // Terms: "SEEN of a STEP: from release to end": not from PHASE less, LAG, STRIDE, or the end of the one before.
    private static void seenFromReleaseToEnd() {
        OffsetChains x = Make.with(new int[] {50, 4, 0, 2, 5, 3, 1, 1, 5, 6});
        x.chain(0, 3, 40);
        x.chain(0, 4, 4);
        x.run(110);
        // Released at 40 and 90; READY at 43, and at 97.
        seen("the first of it", x, 0, 0, 9, 5, 2);
        seen("the second of it", x, 0, 1, 16, 12, 2);
    }

    // Terms: "of those that have done their COST in the RUN: they ended."
    private static void seenOfThoseThatEndedInTheRun() {
        OffsetChains x = Make.with(new int[] {10, 0, 0, 4, 5, 0}, new int[] {10, 0, 0, 3, 4, 0});
        x.chain(1, 3, 1);
        due.is("the second of chain 1 has done 2 of 3", x.run(16), 3);
        seen("one of it ended", x, 1, 0, 6, 6, 1);
        due.is("it has done 3 of 3", x.run(17), 4);
        seen("two of it ended", x, 1, 0, 6, 6, 2);
        due.is("the first has done 1 of 4", x.run(1), 0);
        seen("none ended", x, 0, 0, NONE, NONE, 0);
        due.is("it did that tick all the same", x.tick(0, 0), 0);
    }

    // Terms: "All STEPS are numbered 3 times the CHAIN and the STEP": 0 to 8.
    private static void numbersOfSteps() {
        int[] three = {50, 0, 0, 1, 5, 0, 0, 1, 5, 0, 0, 1, 5, 0};
        OffsetChains x = Make.with(three, three, three);
        due.is("all nine", x.run(9), 9);
        did("all nine", x, 0, "012345678");
        did("none on the other", x, 1, ".........");
    }

    // Promise 18: "how many ended, of all STEPS together": none, without STEPS; as many as may be.
    private static void runAnswersHowManyEnded() {
        OffsetChains x = new OffsetChains();
        due.is("no STEPS", x.run(300), 0);
        due.is("no STEPS: count(3)", x.count(3), 0);
        due.is("no STEPS: count(4)", x.count(4), 300);
        due.is("no STEPS: count(5)", x.count(5), 300);
        due.is("no STEPS: count(6)", x.count(6), 300);
        int[] one = {5, 0, 0, 1, 5, 0, 1, 1, 5, 0, 0, 1, 4, 0};
        x = Make.with(one, one, new int[] {5, 0, 1, 1, 5, 0, 0, 1, 5, 0, 1, 1, 3, 0});
        due.is("nine STEPS, 60 times", x.run(300), 9 * 60);
        due.is("nine STEPS, 60 times: count(3)", x.count(3), 9 * 60);
    }

    // Promise 18: "BAD", and "They change nothing": the run before it is still the latest.
    private static void aRefusedRunIsNone() {
        OffsetChains x = Make.with(new int[] {5, 0, 0, 2, 5, 0});
        x.run(12);
        for (int h : Make.outside(1, 300)) {
            due.is("run(" + h + ")", x.run(h), BAD);
            due.is("count(3)", x.count(3), 3);
            due.is("count(6)", x.count(6), 12);
            did("the run before", x, 0, "00...00...00.");
            seen("the run before", x, 0, 0, 2, 2, 3);
        }
    }

    // Promises 19, 20: "Of the latest RUN": a shorter one leaves nothing of a longer one.
    private static void theLatestRun() {
        OffsetChains x = Make.with(new int[] {10, 0, 0, 3, 5, 0}, new int[] {10, 0, 1, 2, 5, 0});
        x.run(300);
        x.run(1);
        did("of 1", x, 0, "0.........");
        did("of 1", x, 1, "3.........");
        due.is("of 1", x.tick(0, 290), NONE);
        seen("of 1", x, 0, 0, NONE, NONE, 0);
        due.is("of 1: count(3)", x.count(3), 0);
        due.is("of 1: count(4)", x.count(4), 0);
        due.is("of 1: count(6)", x.count(6), 1);
        x.run(3);
        // What was begun in an earlier run is begun anew.
        seen("of 3", x, 0, 0, 3, 3, 1);
        seen("of 3", x, 1, 0, 2, 2, 1);
    }

    // Promise 19: "the greatest SEEN (what = 0; NONE: none ended), the least (1; NONE), how many ended (2)."
    private static void seenIsNone() {
        OffsetChains x = Make.with(new int[] {50, 0, 0, 3, 5, 0, 0, 2, 5, 0});
        seen("nothing was run", x, 0, 0, NONE, NONE, 0);
        x.run(2);
        seen("it has not ended", x, 0, 0, NONE, NONE, 0);
        x.run(3);
        seen("it has", x, 0, 0, 3, 3, 1);
        seen("it has not begun", x, 0, 1, NONE, NONE, 0);
        x.run(5);
        seen("it has", x, 0, 1, 5, 5, 1);
        x.chain(0, 3, 99);
        x.run(99);
        seen("it was not released", x, 0, 0, NONE, NONE, 0);
    }

    // Promise 19: "by the number that the STEP has (of the STEP that had it in the RUN)".
    private static void seenOfTheStepThatHadTheNumber() {
        OffsetChains x = Make.with(new int[] {50, 0, 0, 3, 5, 0, 1, 2, 5, 0});
        x.run(50);
        x.back(0);
        due.is("there is no such STEP", x.seen(0, 1, 0), BAD);
        x.step(0, 0, 20, 0, 9);
        seen("of the one that is gone", x, 0, 1, 5, 5, 1);
        x.step(0, 0, 1, 0, 0);
        seen("of none", x, 0, 2, NONE, NONE, 0);
        x.tune(0, 0, 1, 9);
        seen("of what it was", x, 0, 0, 3, 3, 1);
        did("of what it was", x, 1, "...11...");
        x.run(50);
        seen("of a new run", x, 0, 0, 9, 9, 1);
        seen("of a new run", x, 0, 1, 38, 38, 1);
        seen("of a new run", x, 0, 2, 39, 39, 1);
    }

    // Promise 20: "NONE: none, there was no such TICK."
    private static void tickIsNoneBehindTheRun() {
        OffsetChains x = Make.with(new int[] {5, 0, 0, 5, 5, 0});
        due.is("nothing was run", x.tick(0, 0), NONE);
        x.run(10);
        due.is("the last", x.tick(0, 9), 0);
        due.is("the other NODE did none", x.tick(1, 9), NONE);
        for (int t : new int[] {10, 11, 59, 60, 299}) {
            due.is("there was no tick " + t, x.tick(0, t), NONE);
        }
    }

    // Promise 20: "which STEP, by number, a NODE did in a TICK (0 to 299)", and "A STEP has a NODE (0, 1)".
    private static void tickIsFrom0To299() {
        OffsetChains x = Make.with(new int[] {5, 0, 0, 5, 5, 0}, new int[] {5, 0, 1, 5, 5, 0});
        x.run(300);
        for (int node = 0; node < 2; node++) {
            due.is("tick(" + node + ", 0)", x.tick(node, 0), 3 * node);
            due.is("tick(" + node + ", 299)", x.tick(node, 299), 3 * node);
            for (int t : Make.outside(0, 299)) {
                due.is("tick(" + node + ", " + t + ")", x.tick(node, t), BAD);
            }
        }
        for (int node : Make.outside(0, 1)) {
            due.is("tick(" + node + ", 0)", x.tick(node, 0), BAD);
        }
    }
}
