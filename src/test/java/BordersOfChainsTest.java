import java.util.Arrays;

/**
 * Promises 1 to 9 at their borders: a test of its own for each sentence of the document that names one. The remark
 * ahead of a test says which promise, or which part, and which sentence it holds. What is refused by them stands in
 * BordersOfRefusalsTest.
 */
public final class BordersOfChainsTest {
    private static final int NONE = OffsetChains.NONE, BAD = OffsetChains.BAD, NOT = OffsetChains.NOT,
            FULL = OffsetChains.FULL;

    private static final Due due = new Due("BordersOfChainsTest");

    public static void main(String[] args) {
        newObjectHasNoSteps();
        newObjectHasChainsAsAtFirst();
        newObjectHasRunNothing();
        newObjectHasLostSheets();
        newObjectIsNotTouchedByAnother();
        chainsAre0To2();
        period();
        jitter();
        deadline();
        phase();
        stride();
        upToThreeSteps();
        stepsAreFrom0On();
        node();
        cost();
        priority();
        lag();
        earliestTakesLags();
        earliestTakesCostsBeforeIt();
        rivalsAreOtherSteps();
        rivalsAreOnItsNode();
        rivalsHaveNoLessPriority();
        rivalsOfItsOwnChain();
        loadTakesRivals();
        chainAnswersWhatItWas();
        stepAnswersWhichOfTheChain();
        stepIsFull();
        backTakesTheLast();
        backAnswersHowManyAreLeft();
        backIsNot();
        tuneAnswersWhatItWas();
        readTakesFourItemsForEach();
        readTakesAsManyAsAreWhole();
        readTakesAsLongAsEachMayBe();
        readTakesAsLongAsThereIsRoom();
        readTakesAnyForm();
        readTellsOthersAnew();
        readOfLongsLooksAtTheWholeItem();
        hasHowManySteps();
        infoOfLateIsNone();
        loadIsInLowestTerms();
        loadAbove1();
        due.end();
    }

    private static void mark(String what, OffsetChains x, int i, int j, int... told) {
        for (int a = 0; a < told.length; a++) {
            due.is(what + ": info(" + i + ", " + j + ", " + a + ")", x.info(i, j, a), told[a]);
        }
    }

    private static void load(String what, OffsetChains x, int i, int j, int above, int below) {
        due.is(what + ": load(" + i + ", " + j + ", 0)", x.load(i, j, 0), above);
        due.is(what + ": load(" + i + ", " + j + ", 1)", x.load(i, j, 1), below);
    }

    // Promise 1: "No STEPS".
    private static void newObjectHasNoSteps() {
        OffsetChains x = new OffsetChains();
        due.is("count(0)", x.count(0), 0);
        for (int i = 0; i < 3; i++) {
            due.is("has(" + i + ", 5)", x.has(i, 5), 0);
            due.is("back(" + i + ")", x.back(i), NOT);
            due.is("info(" + i + ", 0, 0)", x.info(i, 0, 0), BAD);
            due.is("seen(" + i + ", 0, 0)", x.seen(i, 0, 0), BAD);
        }
    }

    // Promise 1: "all of CHAINS as at first".
    private static void newObjectHasChainsAsAtFirst() {
        OffsetChains x = new OffsetChains();
        int[] first = {20, 0, 0, 0, 0};
        for (int i = 0; i < 3; i++) {
            for (int what = 0; what < 5; what++) {
                due.is("new: has(" + i + ", " + what + ")", x.has(i, what), first[what]);
            }
        }
    }

    // Promise 1: "nothing was run".
    private static void newObjectHasRunNothing() {
        for (int node = 0; node < 2; node++) {
            OffsetChains x = new OffsetChains();
            for (int t = 0; t < 300; t++) {
                due.is("new: tick(" + node + ", " + t + ")", x.tick(node, t), NONE);
            }
        }
        OffsetChains x = new OffsetChains();
        for (int what = 3; what <= 6; what++) {
            due.is("new: count(" + what + ")", x.count(what), 0);
        }
        x.step(0, 0, 1, 0, 0);
        due.is("not run: seen(0, 0, 0)", x.seen(0, 0, 0), NONE);
        due.is("not run: seen(0, 0, 1)", x.seen(0, 0, 1), NONE);
        due.is("not run: seen(0, 0, 2)", x.seen(0, 0, 2), 0);
    }

    // Promise 1: "all SHEETS are LOST".
    private static void newObjectHasLostSheets() {
        OffsetChains x = new OffsetChains();
        due.is("new: count(8)", x.count(8), 0);
        for (int s = 0; s < 4; s++) {
            due.is("new: lose(" + s + ")", x.lose(s), -11);
            due.is("new: write(" + s + ")", x.write(s), -11);
            for (int form = 0; form < 3; form++) {
                due.is("new: get", x.get(s, form, 0), Long.MIN_VALUE + 11);
            }
        }
    }

    // Promise 1: "all of CHAINS as at first", whatever other objects were told.
    private static void newObjectIsNotTouchedByAnother() {
        OffsetChains other = Make.with(new int[] {77, 8, 0, 3, 4, 5}, new int[] {88, 9, 1, 6, 7, 8});
        other.run(300);
        other.sheet(2, 1, 9);
        other.sheet(2, 1, -1);
        OffsetChains x = new OffsetChains();
        due.is("another: has(0, 0)", x.has(0, 0), 20);
        due.is("another: count(0)", x.count(0), 0);
        due.is("another: count(6)", x.count(6), 0);
        due.is("another: count(8)", x.count(8), 0);
        due.is("another: lose(2)", x.lose(2), -11);
        due.is("another: it has what it was told", other.has(0, 0), 77);
    }

    // What it is: "CHAINS are 0 to 2".
    private static void chainsAre0To2() {
        for (int i : new int[] {0, 2}) {
            OffsetChains x = new OffsetChains();
            due.is("chain " + i, x.chain(i, 0, 30), 20);
            due.is("chain " + i, x.step(i, 0, 1, 0, 0), 0);
            due.is("chain " + i, x.bound(i, 0), 1);
            for (int other = 0; other < 3; other++) {
                due.is("chain " + i + " alone has it", x.has(other, 0), other == i ? 30 : 20);
                due.is("chain " + i + " alone has it", x.has(other, 5), other == i ? 1 : 0);
            }
        }
        OffsetChains x = Make.with(new int[] {20, 0, 0, 1, 0, 0}, new int[] {20, 0, 0, 1, 0, 0},
                new int[] {20, 0, 0, 1, 0, 0});
        for (int i : Make.outside(0, 2)) {
            due.is("no chain " + i, x.chain(i, 0, 30), BAD);
            due.is("no chain " + i, x.step(i, 0, 1, 0, 0), BAD);
            due.is("no chain " + i, x.has(i, 5), BAD);
            due.is("no chain " + i, x.bound(i, 0), BAD);
        }
        due.is("no other chains", x.count(0), 3);
    }

    /** Of each chain: as at first, nothing from outside, both borders, and what is in between. */
    private static void trait(String name, int what, int least, int most, int first) {
        for (int i = 0; i < 3; i++) {
            OffsetChains x = new OffsetChains();
            due.is(name + " at first", x.has(i, what), first);
            for (int v : Make.outside(least, most)) {
                due.is(name + " of " + v, x.chain(i, what, v), BAD);
                due.is(name + " of " + v + " has changed nothing", x.has(i, what), first);
            }
            due.is(name + ", the least", x.chain(i, what, least), first);
            due.is(name + ", the least", x.has(i, what), least);
            due.is(name + ", the most", x.chain(i, what, most), least);
            due.is(name + ", the most", x.has(i, what), most);
            for (int v : new int[] {least + 1, most - 1}) {
                x.chain(i, what, v);
                due.is(name + " of " + v, x.has(i, what), v);
            }
            for (int other = 0; other < 6; other++) {
                int told = other == what ? most - 1 : other == 0 ? 20 : 0;
                due.is(name + " alone is told: has(" + i + ", " + other + ")", x.has(i, other), told);
            }
        }
    }

    // What it is: "each has a PERIOD T (5 to 100; 20 at first)".
    private static void period() {
        trait("PERIOD", 0, 5, 100, 20);
    }

    // What it is: "JITTER (0 to 30; 0 at first)".
    private static void jitter() {
        trait("JITTER", 1, 0, 30, 0);
    }

    // What it is: "a DEADLINE (0 to 200; 0 at first: none)".
    private static void deadline() {
        trait("DEADLINE", 2, 0, 200, 0);
    }

    // What it is: "for runs a PHASE (0 to 99; 0 at first)".
    private static void phase() {
        trait("PHASE", 3, 0, 99, 0);
    }

    // What it is: "and a STRIDE (0 to 9; 0 at first)".
    private static void stride() {
        trait("STRIDE", 4, 0, 9, 0);
    }

    // What it is: "up to 3 STEPS".
    private static void upToThreeSteps() {
        OffsetChains x = new OffsetChains();
        for (int i = 0; i < 3; i++) {
            for (int j = 0; j < 5; j++) {
                due.is("step " + j + " of " + i, x.step(i, 0, 1, 0, 0), j < 3 ? j : FULL);
                due.is("steps of " + i, x.has(i, 5), Math.min(j + 1, 3));
            }
        }
        due.is("all steps", x.count(0), 9);
    }

    // What it is: "STEPS, 0 on (none at first)".
    private static void stepsAreFrom0On() {
        for (int many = 0; many <= 3; many++) {
            OffsetChains x = new OffsetChains();
            for (int j = 0; j < many; j++) {
                x.step(1, 1, j + 1, 0, 0);
            }
            for (int j = 0; j <= 3; j++) {
                due.is("of " + many + ", step " + j, x.info(1, j, 1), j < many ? j + 1 : BAD);
            }
            for (int j : Make.outside(0, 2)) {
                due.is("of " + many + ", step " + j, x.info(1, j, 1), BAD);
                due.is("of " + many + ", step " + j, x.tune(1, j, 1, 1), BAD);
            }
        }
    }

    private static int stepWith(OffsetChains x, int what, int v) {
        int[] told = {0, 5, 5, 5};
        told[what] = v;
        return x.step(2, told[0], told[1], told[2], told[3]);
    }

    /** By step() and by tune(): nothing from outside, both borders. */
    private static void mark(String name, int what, int least, int most) {
        OffsetChains x = new OffsetChains();
        for (int v : Make.outside(least, most)) {
            due.is("step() with " + name + " " + v, stepWith(x, what, v), BAD);
        }
        due.is("no step with " + name, x.has(2, 5), 0);
        due.is("step() with the least " + name, stepWith(x, what, least), 0);
        due.is("step() with the most " + name, stepWith(x, what, most), 1);
        due.is("the least " + name, x.info(2, 0, what), least);
        due.is("the most " + name, x.info(2, 1, what), most);
        for (int v : Make.outside(least, most)) {
            due.is("tune() to " + name + " " + v, x.tune(2, 0, what, v), BAD);
            due.is("tune() to " + name + " " + v + " has changed nothing", x.info(2, 0, what), least);
        }
        due.is("tune() to the most " + name, x.tune(2, 0, what, most), least);
        due.is("tune() to the least " + name, x.tune(2, 1, what, least), most);
        due.is("the most " + name, x.info(2, 0, what), most);
        due.is("the least " + name, x.info(2, 1, what), least);
    }

    // Terms: "A STEP has a NODE (0, 1)".
    private static void node() {
        mark("NODE", 0, 0, 1);
    }

    // Terms: "a COST (1 to 20)".
    private static void cost() {
        mark("COST", 1, 1, 20);
    }

    // Terms: "a PRIORITY (0 to 9)".
    private static void priority() {
        mark("PRIORITY", 2, 0, 9);
    }

    // Terms: "and a LAG (0 to 20)".
    private static void lag() {
        mark("LAG", 3, 0, 20);
    }

    // Terms: "EARLIEST of a STEP: LAGS up to it, its own too": none, and as much as may be.
    private static void earliestTakesLags() {
        OffsetChains x = Make.with(new int[] {20, 0, 0, 1, 0, 0},
                new int[] {20, 0, 1, 1, 0, 20, 1, 1, 0, 20, 1, 1, 0, 20});
        due.is("no lag", x.info(0, 0, 4), 0);
        due.is("its own", x.info(1, 0, 4), 20);
        due.is("the one before, its own", x.info(1, 1, 4), 20 + 1 + 20);
        due.is("all three", x.info(1, 2, 4), 20 + 1 + 20 + 1 + 20);
        x.tune(1, 2, 3, 0);
        due.is("not the ones behind it", x.info(1, 1, 4), 41);
        due.is("without its own", x.info(1, 2, 4), 42);
    }

    // Terms: "and COSTS of those before it, together": not its own, not those behind it; none, and as much as may be.
    private static void earliestTakesCostsBeforeIt() {
        OffsetChains x = Make.with(new int[] {100, 0, 0, 20, 0, 0, 1, 20, 0, 0, 0, 20, 0, 0});
        due.is("none before it", x.info(0, 0, 4), 0);
        due.is("one before it", x.info(0, 1, 4), 20);
        due.is("two before it", x.info(0, 2, 4), 40);
        for (int j = 0; j < 3; j++) {
            x.tune(0, j, 3, 20);
        }
        due.is("as late as may be", x.info(0, 2, 4), 100);
        x.tune(0, 1, 1, 1);
        due.is("of the second the cost", x.info(0, 2, 4), 81);
        due.is("of the second the cost, but not for itself", x.info(0, 1, 4), 60);
    }

    // Terms: "RIVALS of a STEP x: the other STEPS": none if it is alone, eight at the most.
    private static void rivalsAreOtherSteps() {
        OffsetChains x = new OffsetChains();
        x.step(1, 1, 1, 0, 0);
        due.is("alone", x.info(1, 0, 6), 0);
        int[] more = {0, 0, 0, 1, 1, 2, 2, 2};
        for (int a = 0; a < more.length; a++) {
            x.step(more[a], 1, 1, 0, 0);
            due.is("one more", x.info(1, 0, 6), a + 1);
        }
        for (int number = 0; number < 9; number++) {
            due.is("all the others", x.info(number / 3, number % 3, 6), 8);
        }
    }

    // Terms: "on its NODE".
    private static void rivalsAreOnItsNode() {
        OffsetChains x = Make.with(new int[] {20, 0, 0, 1, 5, 0}, new int[] {20, 0, 1, 1, 9, 0});
        due.is("on node 0", x.info(0, 0, 6), 0);
        due.is("on node 1", x.info(1, 0, 6), 0);
        x.tune(0, 0, 0, 1);
        due.is("both on node 1", x.info(0, 0, 6), 1);
        due.is("both on node 1, but it is more urgent", x.info(1, 0, 6), 0);
    }

    // Terms: "whose PRIORITY is no less".
    private static void rivalsHaveNoLessPriority() {
        OffsetChains x = Make.with(new int[] {20, 0, 0, 1, 5, 0}, new int[] {20, 0, 0, 1, 5, 0});
        int[][] told = {{4, 0, 1}, {5, 1, 1}, {6, 1, 0}, {0, 0, 1}, {9, 1, 0}};
        for (int[] by : told) {
            x.tune(1, 0, 2, by[0]);
            due.is("a rival of priority " + by[0] + " for 5", x.info(0, 0, 6), by[1]);
            due.is("a rival of priority 5 for " + by[0], x.info(1, 0, 6), by[2]);
        }
    }

    // Terms: "those of its own CHAIN too": ahead of it and behind it.
    private static void rivalsOfItsOwnChain() {
        OffsetChains x = Make.with(new int[] {20, 0, 0, 1, 5, 0, 0, 1, 5, 0, 0, 1, 5, 0});
        for (int j = 0; j < 3; j++) {
            due.is("both others", x.info(0, j, 6), 2);
        }
        x.tune(0, 1, 2, 4);
        due.is("the last alone", x.info(0, 0, 6), 1);
        due.is("both others", x.info(0, 1, 6), 2);
        due.is("the first alone", x.info(0, 2, 6), 1);
    }

    // Terms: "LOAD of x: of x and its RIVALS COST by PERIOD, together": itself alone, one that is just a rival or not.
    private static void loadTakesRivals() {
        OffsetChains x = Make.with(new int[] {100, 0, 0, 1, 5, 0}, new int[] {50, 0, 0, 1, 4, 0});
        load("alone", x, 0, 0, 1, 100);
        load("and the more urgent", x, 1, 0, 3, 100);
        x.tune(1, 0, 2, 5);
        load("and the like one", x, 0, 0, 3, 100);
        x.tune(1, 0, 0, 1);
        load("not of the other node", x, 0, 0, 1, 100);
        load("not of the other node", x, 1, 0, 1, 50);
    }

    // Promise 2: "PERIOD (what = 0), JITTER (1), DEADLINE (2), PHASE (3), STRIDE (4) of a CHAIN: what it was."
    private static void chainAnswersWhatItWas() {
        OffsetChains x = new OffsetChains();
        int[] was = {20, 0, 0, 0, 0};
        for (int v : new int[] {9, 5, 5, 8}) {
            for (int what = 0; what < 5; what++) {
                due.is("chain(1, " + what + ", " + v + ")", x.chain(1, what, v), was[what]);
                was[what] = v;
            }
        }
        for (int what : Make.outside(0, 4)) {
            due.is("chain(1, " + what + ", 8)", x.chain(1, what, 8), BAD);
        }
        for (int what = 0; what < 5; what++) {
            due.is("after all, has(1, " + what + ")", x.has(1, what), 8);
        }
    }

    // Promise 3: "A STEP more of a CHAIN: which of it."
    private static void stepAnswersWhichOfTheChain() {
        OffsetChains x = new OffsetChains();
        for (int j = 0; j < 3; j++) {
            for (int i = 2; i >= 0; i--) {
                due.is("step() of " + i, x.step(i, 0, 1 + j, i, 0), j);
                mark("step() of " + i, x, i, j, 0, 1 + j, i, 0);
            }
        }
    }

    // Promise 3: "FULL": from the fourth on, of this chain alone, and not any more when one is gone.
    private static void stepIsFull() {
        OffsetChains x = Make.with(new int[] {20, 0, 0, 1, 5, 0, 0, 2, 5, 0, 0, 3, 5, 0});
        due.is("a fourth", x.step(0, 1, 4, 5, 0), FULL);
        due.is("a fifth", x.step(0, 1, 4, 5, 0), FULL);
        due.is("the third stays", x.info(0, 2, 1), 3);
        due.is("another chain", x.step(1, 1, 4, 5, 0), 0);
        x.back(0);
        due.is("the third again", x.step(0, 1, 4, 5, 0), 2);
        due.is("a fourth", x.step(0, 1, 4, 5, 0), FULL);
    }

    // Promise 4: "The last STEP of a CHAIN is gone".
    private static void backTakesTheLast() {
        OffsetChains x = Make.with(new int[] {20, 0, 0, 1, 5, 0, 0, 2, 5, 0, 0, 3, 5, 0},
                new int[] {20, 0, 0, 4, 5, 0});
        x.back(0);
        mark("the first", x, 0, 0, 0, 1, 5, 0);
        mark("the second", x, 0, 1, 0, 2, 5, 0);
        due.is("the third", x.info(0, 2, 1), BAD);
        due.is("of its rivals it is none", x.info(0, 0, 6), 2);
        due.is("another chain", x.info(1, 0, 1), 4);
        x.back(0);
        x.back(0);
        due.is("the first", x.info(0, 0, 1), BAD);
        due.is("of its rivals none is left", x.info(1, 0, 6), 0);
    }

    // Promise 4: "how many are left."
    private static void backAnswersHowManyAreLeft() {
        OffsetChains x = Make.with(new int[] {20, 0, 0, 1, 5, 0, 0, 2, 5, 0, 0, 3, 5, 0},
                new int[] {20, 0, 0, 4, 5, 0});
        due.is("two left", x.back(0), 2);
        due.is("one left", x.back(0), 1);
        due.is("none left", x.back(0), 0);
        due.is("none left of another", x.back(1), 0);
        due.is("none left at all", x.count(0), 0);
    }

    // Promise 4: "NOT: there is none."
    private static void backIsNot() {
        OffsetChains x = new OffsetChains();
        due.is("none at first", x.back(2), NOT);
        x.step(2, 0, 1, 0, 0);
        x.back(2);
        due.is("none any more", x.back(2), NOT);
        due.is("none any more", x.has(2, 5), 0);
        due.is("there is one in another", x.step(1, 0, 1, 0, 0), 0);
        due.is("there is one in another", x.back(2), NOT);
        due.is("there is one in another", x.has(1, 5), 1);
    }

    // Promise 5: "NODE (what = 0), COST (1), PRIORITY (2), LAG (3) of STEP j of CHAIN i: what it was."
    private static void tuneAnswersWhatItWas() {
        OffsetChains x = Make.with(new int[] {20, 0, 0, 7, 8, 9}, new int[] {20, 0},
                new int[] {20, 0, 0, 1, 1, 1, 0, 7, 8, 9});
        int[] was = {0, 7, 8, 9};
        for (int v : new int[] {1, 1}) {
            for (int what = 0; what < 4; what++) {
                due.is("tune(2, 1, " + what + ", " + v + ")", x.tune(2, 1, what, v), was[what]);
                was[what] = v;
            }
        }
        for (int what : Make.outside(0, 3)) {
            due.is("tune(2, 1, " + what + ", 1)", x.tune(2, 1, what, 1), BAD);
        }
        mark("it", x, 2, 1, 1, 1, 1, 1);
        mark("not the one before", x, 2, 0, 0, 1, 1, 1);
        mark("not of another chain", x, 0, 0, 0, 7, 8, 9);
    }

    // Promise 6: "its items, four for each, as by step()": NODE, COST, PRIORITY, LAG, from the first item on.
    private static void readTakesFourItemsForEach() {
        OffsetChains x = new OffsetChains();
        Make.sheet(x, 0, 1, 0, 1, 0, 0, 1, 20, 9, 20, 1, 2, 3, 4);
        due.is("three steps", x.read(1, 0), 3);
        mark("the least", x, 1, 0, 0, 1, 0, 0);
        mark("the most", x, 1, 1, 1, 20, 9, 20);
        mark("the third", x, 1, 2, 1, 2, 3, 4);
        due.is("not of another chain", x.count(0), 3);
    }

    // Promise 6: "as many as are whole".
    private static void readTakesAsManyAsAreWhole() {
        int[] whole = {0, 0, 0, 0, 1, 1, 1, 1, 2, 2, 2, 2, 3, 3};
        for (int n = 0; n < whole.length; n++) {
            OffsetChains x = new OffsetChains();
            int[] items = new int[n];
            Arrays.fill(items, 1);
            Make.sheet(x, 3, 1, items);
            due.is("of " + n + " items", x.read(0, 3), whole[n]);
            due.is("of " + n + " items", x.has(0, 5), whole[n]);
        }
    }

    // Promise 6: "as long as each may be": those ahead of the first that may not be, none behind it.
    private static void readTakesAsLongAsEachMayBe() {
        int[] least = {0, 1, 0, 0};
        int[] most = {1, 20, 9, 20};
        for (int item = 0; item < 12; item++) {
            for (int v : Make.outside(least[item % 4], most[item % 4])) {
                OffsetChains x = new OffsetChains();
                int[] items = {1, 1, 1, 1, 1, 1, 1, 1, 1, 1, 1, 1};
                items[item] = v;
                Make.sheet(x, 2, 1, items);
                due.is("item " + item + " is " + v, x.read(2, 2), item / 4);
                due.is("item " + item + " is " + v, x.has(2, 5), item / 4);
            }
        }
    }

    // Promise 6: "and there is room: how many."
    private static void readTakesAsLongAsThereIsRoom() {
        for (int there = 0; there <= 3; there++) {
            for (int offered = 0; offered <= 15; offered += 3) {
                OffsetChains x = new OffsetChains();
                for (int j = 0; j < there; j++) {
                    x.step(1, 0, 9, 0, 0);
                }
                int[] items = new int[4 * offered];
                Arrays.fill(items, 1);
                Make.sheet(x, 0, 1, items);
                int taken = Math.min(offered, 3 - there);
                due.is(there + " there, " + offered + " offered", x.read(1, 0), taken);
                due.is(there + " there, " + offered + " offered", x.has(1, 5), there + taken);
                for (int j = 0; j < there + taken; j++) {
                    due.is("which stand where", x.info(1, j, 1), j < there ? 9 : 1);
                }
                due.is("the other chains", x.count(0), there + taken);
            }
        }
    }

    // Promise 6: "STEPS of a CHAIN more, from a SHEET": of shorts, ints, longs.
    private static void readTakesAnyForm() {
        for (int form = 0; form < 2; form++) {
            OffsetChains x = new OffsetChains();
            Make.sheet(x, 1, form, 1, 20, 9, 20);
            due.is("form " + form, x.read(0, 1), 1);
            mark("form " + form, x, 0, 0, 1, 20, 9, 20);
        }
        // Longs small enough come from BOUNDS: 1, 2, 3, 3.
        OffsetChains x = Make.with(new int[] {50, 0, 0, 1, 5, 0, 0, 1, 5, 0, 0, 1, 5, 0},
                new int[] {50, 0, 1, 3, 5, 0});
        x.sheet(1, 2, 4);
        due.is("bounds", x.write(1), 4);
        due.is("longs", x.read(2, 1), 1);
        mark("longs", x, 2, 0, 1, 2, 3, 3);
    }

    // Promise 6: "STEPS of a CHAIN more": what was told of others before is told anew.
    private static void readTellsOthersAnew() {
        OffsetChains x = Make.with(new int[] {50, 0, 0, 4, 5, 0});
        due.is("alone", x.bound(0, 0), 4);
        Make.sheet(x, 0, 1, 0, 3, 5, 0);
        due.is("one more", x.read(1, 0), 1);
        due.is("one more", x.bound(0, 0), 7);
        due.is("one more", x.info(0, 0, 6), 1);
        x.lay(0, 1, 1, 21);
        due.is("none more", x.read(2, 0), 0);
        due.is("none more", x.bound(0, 0), 7);
    }

    // Promise 6: "as long as each may be": a long is no COST because its lowest 32 bits are one.
    private static void readOfLongsLooksAtTheWholeItem() {
        OffsetChains x = Make.with(new int[] {50, 0, 0, 1, 5, 0});
        x.sheet(1, 2, 4);
        due.is("a node of 1", x.write(1), 1);
        // 189368359 times 100000007 is 17 and 4409076 times 2 to the 32nd.
        x.lay(1, 2, 1, 189368359);
        due.is("its lowest bits are 17", (int) x.get(1, 2, 1), 17);
        due.is("but it is more", x.read(2, 1), 0);
        due.is("so no step", x.has(2, 5), 0);
    }

    // Promise 7: "how many STEPS (5)": 0 to 3.
    private static void hasHowManySteps() {
        OffsetChains x = new OffsetChains();
        for (int many = 1; many <= 3; many++) {
            x.step(2, 0, 1, 0, 0);
            due.is("so many", x.has(2, 5), many);
        }
        x.step(2, 0, 1, 0, 0);
        due.is("no fourth", x.has(2, 5), 3);
        for (int left = 2; left >= 0; left--) {
            x.back(2);
            due.is("so many", x.has(2, 5), left);
        }
        x.back(2);
        due.is("none, and none is gone", x.has(2, 5), 0);
    }

    // Promise 8: "LATE (5; NONE: it is not SETTLED)"; the others are told all the same.
    private static void infoOfLateIsNone() {
        OffsetChains x = Make.with(new int[] {20, 30, 0, 4, 5, 6}, new int[] {20, 0, 1, 20, 5, 0});
        due.is("settled", x.info(0, 0, 5), 30);
        due.is("settled", x.info(1, 0, 5), 0);
        x.step(1, 1, 1, 5, 0);
        due.is("not settled", x.info(0, 0, 5), NONE);
        due.is("not settled", x.info(1, 1, 5), NONE);
        mark("not settled", x, 0, 0, 0, 4, 5, 6, 6);
        due.is("not settled", x.info(1, 1, 4), 20);
        due.is("not settled", x.info(1, 1, 6), 1);
    }

    // Promise 9: "LOAD in lowest terms: above (what = 0), below (1)."
    private static void loadIsInLowestTerms() {
        load("the least", Make.with(new int[] {100, 0, 0, 1, 0, 0}), 0, 0, 1, 100);
        load("just 1", Make.with(new int[] {5, 0, 0, 5, 0, 0}), 0, 0, 1, 1);
        load("a whole number", Make.with(new int[] {5, 0, 0, 20, 0, 0}), 0, 0, 4, 1);
        load("10 by 20 and 7 by 14", Make.with(new int[] {20, 0, 0, 10, 0, 0}, new int[] {14, 0, 0, 7, 0, 0}),
                0, 0, 1, 1);
        load("nothing in common", Make.with(new int[] {97, 0, 0, 1, 0, 0}, new int[] {99, 0, 0, 1, 0, 0},
                new int[] {100, 0, 0, 1, 0, 0}), 0, 0, 99 * 100 + 97 * 100 + 97 * 99, 97 * 99 * 100);
        // 1 by 6 and 1 by 10 and 1 by 15 is 10 by 30.
        load("all in common", Make.with(new int[] {6, 0, 0, 1, 0, 0}, new int[] {10, 0, 0, 1, 0, 0},
                new int[] {15, 0, 0, 1, 0, 0}), 1, 0, 1, 3);
        int[] most = {5, 0, 1, 20, 0, 0, 1, 20, 0, 0, 1, 20, 0, 0};
        load("the most", Make.with(most, most, most), 2, 2, 36, 1);
    }

    // Promise 27: "7 STEPS whose LOAD is above 1": just 1 is not, nor is a little less; a little more is.
    private static void loadAbove1() {
        OffsetChains x = Make.with(new int[] {20, 0, 0, 20, 5, 0}, new int[] {20, 0, 1, 10, 5, 0, 1, 10, 5, 0});
        load("just 1", x, 0, 0, 1, 1);
        load("just 1", x, 1, 1, 1, 1);
        due.is("just 1", x.count(7), 0);
        x = Make.with(new int[] {97, 0, 0, 16, 5, 0}, new int[] {99, 0, 0, 20, 5, 0, 0, 20, 5, 0, 0, 10, 5, 0},
                new int[] {100, 0, 0, 20, 5, 0, 0, 13, 4, 0});
        load("a little less", x, 2, 1, 960299, 960300);
        due.is("a little less", x.count(7), 0);
        x = Make.with(new int[] {97, 0, 0, 20, 5, 0, 0, 20, 5, 0, 0, 9, 5, 0},
                new int[] {99, 0, 0, 20, 5, 0, 0, 20, 5, 0, 0, 8, 5, 0}, new int[] {100, 0, 0, 1, 4, 0});
        load("a little more", x, 2, 0, 320101, 320100);
        due.is("a little more, for the least urgent alone", x.count(7), 1);
        x.tune(2, 0, 2, 5);
        due.is("a little more, for all", x.count(7), 7);
    }
}
