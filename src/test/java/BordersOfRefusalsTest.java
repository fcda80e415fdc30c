/**
 * What is refused by the promises 2 to 27: a test of its own for each promise that names a refusal, for the order of
 * refusals, and for what they change. The remark ahead of a test says which promise, or which part, and which sentence
 * it holds. Refused tells how it is seen that nothing has changed.
 */
public final class BordersOfRefusalsTest {
    private static final int BAD = OffsetChains.BAD, NOT = OffsetChains.NOT, FULL = OffsetChains.FULL;
    private static final int NULL = -11, INDEX = -12, CAST = -13, STORE = -14, SIZE = -15;
    private static final long LEAST = Long.MIN_VALUE;
    private static final int LOW = Integer.MIN_VALUE, HIGH = Integer.MAX_VALUE;

    private static final Due due = new Due("BordersOfRefusalsTest");
    private static final Refused refused = new Refused(due);

    public static void main(String[] args) {
        chain();
        step();
        stepIsBadAheadOfFull();
        back();
        tune();
        read();
        readIsBadAheadOfNull();
        has();
        info();
        load();
        boundSearchedQuick();
        worst();
        margin();
        better();
        run();
        seen();
        tick();
        sheet();
        sheetIsBadAheadOfSize();
        lose();
        lay();
        layInItsOrder();
        get();
        getInItsOrder();
        copy();
        copyInItsOrder();
        write();
        count();
        due.end();
    }

    private interface OfStep {
        long on(OffsetChains x, int i, int j);
    }

    /** "no such thing": no such chain, or no such step of it; Refused has 3, 1 and no steps. */
    private static void noSuchStep(String call, OfStep act) {
        for (int i : Make.outside(0, 2)) {
            refused.is(call + " of chain " + i, x -> act.on(x, i, 0), BAD);
        }
        int[] steps = {3, 1, 0};
        for (int i = 0; i < 3; i++) {
            for (int j : Make.outside(0, steps[i] - 1)) {
                int chain = i;
                refused.is(call + " of step " + j + " of chain " + i, x -> act.on(x, chain, j), BAD);
            }
        }
    }

    // Promise 2: "BAD": no such chain, no such what, a number not as told.
    private static void chain() {
        for (int i : Make.outside(0, 2)) {
            refused.is("chain(" + i + ", 0, 30)", x -> x.chain(i, 0, 30), BAD);
        }
        for (int what : Make.outside(0, 4)) {
            refused.is("chain(0, " + what + ", 5)", x -> x.chain(0, what, 5), BAD);
        }
        int[] least = {5, 0, 0, 0, 0};
        int[] most = {100, 30, 200, 99, 9};
        for (int told = 0; told < 5; told++) {
            int what = told;
            for (int v : Make.outside(least[what], most[what])) {
                refused.is("chain(1, " + what + ", " + v + ")", x -> x.chain(1, what, v), BAD);
            }
        }
        refused.is("all of it", x -> x.chain(LOW, HIGH, LOW), BAD);
    }

    // Promise 3: "BAD": no such chain, a number not as told.
    private static void step() {
        for (int i : Make.outside(0, 2)) {
            refused.is("step(" + i + ", ..)", x -> x.step(i, 0, 1, 0, 0), BAD);
        }
        for (int v : Make.outside(0, 1)) {
            refused.is("step() on node " + v, x -> x.step(1, v, 1, 0, 0), BAD);
        }
        for (int v : Make.outside(1, 20)) {
            refused.is("step() with cost " + v, x -> x.step(1, 0, v, 0, 0), BAD);
        }
        for (int v : Make.outside(0, 9)) {
            refused.is("step() with priority " + v, x -> x.step(1, 0, 1, v, 0), BAD);
        }
        for (int v : Make.outside(0, 20)) {
            refused.is("step() with lag " + v, x -> x.step(1, 0, 1, 0, v), BAD);
        }
    }

    // Promise 3: "BAD; FULL", and "the first that fits, in the order told at each act".
    private static void stepIsBadAheadOfFull() {
        refused.is("full", x -> x.step(0, 0, 1, 0, 0), FULL);
        refused.is("full, and node", x -> x.step(0, 2, 1, 0, 0), BAD);
        refused.is("full, and cost", x -> x.step(0, 0, 0, 0, 0), BAD);
        refused.is("full, and priority", x -> x.step(0, 0, 1, 10, 0), BAD);
        refused.is("full, and lag", x -> x.step(0, 0, 1, 0, 21), BAD);
    }

    // Promise 4: "BAD; NOT: there is none."
    private static void back() {
        for (int i : Make.outside(0, 2)) {
            refused.is("back(" + i + ")", x -> x.back(i), BAD);
        }
        refused.is("back(2)", x -> x.back(2), NOT);
    }

    // Promise 5: "BAD": no such step, no such what, a number not as told.
    private static void tune() {
        noSuchStep("tune()", (x, i, j) -> x.tune(i, j, 1, 9));
        for (int what : Make.outside(0, 3)) {
            refused.is("tune(0, 1, " + what + ", 1)", x -> x.tune(0, 1, what, 1), BAD);
        }
        int[] least = {0, 1, 0, 0};
        int[] most = {1, 20, 9, 20};
        for (int told = 0; told < 4; told++) {
            int what = told;
            for (int v : Make.outside(least[what], most[what])) {
                refused.is("tune(0, 2, " + what + ", " + v + ")", x -> x.tune(0, 2, what, v), BAD);
            }
        }
    }

    // Promise 6: "BAD; NULL": no such chain, no such sheet; a LOST one.
    private static void read() {
        for (int i : Make.outside(0, 2)) {
            refused.is("read(" + i + ", 1)", x -> x.read(i, 1), BAD);
        }
        for (int s : Make.outside(0, 3)) {
            refused.is("read(1, " + s + ")", x -> x.read(1, s), BAD);
        }
        refused.is("read(1, 3)", x -> x.read(1, 3), NULL);
        refused.is("read(0, 3), where there is no room", x -> x.read(0, 3), NULL);
    }

    // Promise 6: "BAD; NULL", and "the first that fits, in the order told at each act".
    private static void readIsBadAheadOfNull() {
        refused.is("read(3, 3)", x -> x.read(3, 3), BAD);
        refused.is("read(-1, 3)", x -> x.read(-1, 3), BAD);
    }

    // Promise 7: "BAD": no such chain, no such what.
    private static void has() {
        for (int i : Make.outside(0, 2)) {
            refused.is("has(" + i + ", 0)", x -> x.has(i, 0), BAD);
        }
        for (int what : Make.outside(0, 5)) {
            refused.is("has(0, " + what + ")", x -> x.has(0, what), BAD);
        }
    }

    // Promise 8: "BAD": no such step, no such what.
    private static void info() {
        noSuchStep("info()", (x, i, j) -> x.info(i, j, 0));
        for (int what : Make.outside(0, 6)) {
            refused.is("info(0, 0, " + what + ")", x -> x.info(0, 0, what), BAD);
        }
    }

    // Promise 9: "BAD": no such step, no such what.
    private static void load() {
        noSuchStep("load()", (x, i, j) -> x.load(i, j, 0));
        for (int what : Make.outside(0, 1)) {
            refused.is("load(0, 0, " + what + ")", x -> x.load(0, 0, what), BAD);
        }
    }

    // Promises 10, 11, 12: "BAD": no such step.
    private static void boundSearchedQuick() {
        noSuchStep("bound()", (x, i, j) -> x.bound(i, j));
        noSuchStep("searched()", (x, i, j) -> x.searched(i, j));
        noSuchStep("quick()", (x, i, j) -> x.quick(i, j));
    }

    // Promise 14: "BAD": no such step, no such what.
    private static void worst() {
        noSuchStep("worst()", (x, i, j) -> x.worst(i, j, 0));
        for (int what : Make.outside(0, 2)) {
            refused.is("worst(0, 0, " + what + ")", x -> x.worst(0, 0, what), BAD);
        }
    }

    // Promise 16: "BAD": no such step.
    private static void margin() {
        noSuchStep("margin()", (x, i, j) -> x.margin(i, j));
    }

    // Promise 17: "BAD": no such step, no such what.
    private static void better() {
        noSuchStep("better()", (x, i, j) -> x.better(i, j, 0));
        for (int what : Make.outside(0, 1)) {
            refused.is("better(0, 0, " + what + ")", x -> x.better(0, 0, what), BAD);
        }
    }

    // Promise 18: "A RUN, H (1 to 300) .. BAD."
    private static void run() {
        for (int h : Make.outside(1, 300)) {
            refused.is("run(" + h + ")", x -> x.run(h), BAD);
        }
    }

    // Promise 19: "BAD": no such step, no such what.
    private static void seen() {
        noSuchStep("seen()", (x, i, j) -> x.seen(i, j, 0));
        for (int what : Make.outside(0, 2)) {
            refused.is("seen(0, 0, " + what + ")", x -> x.seen(0, 0, what), BAD);
        }
    }

    // Promise 20: "BAD": no such node, no such tick.
    private static void tick() {
        for (int node : Make.outside(0, 1)) {
            refused.is("tick(" + node + ", 0)", x -> x.tick(node, 0), BAD);
        }
        for (int t : Make.outside(0, 299)) {
            refused.is("tick(1, " + t + ")", x -> x.tick(1, t), BAD);
        }
    }

    // Promise 21: "BAD: SHEET, FORM, above 60; SIZE": also of a sheet that has a row.
    private static void sheet() {
        for (int s : Make.outside(0, 3)) {
            refused.is("sheet(" + s + ", 1, 5)", x -> x.sheet(s, 1, 5), BAD);
        }
        for (int form : Make.outside(0, 2)) {
            refused.is("sheet(1, " + form + ", 5)", x -> x.sheet(1, form, 5), BAD);
        }
        for (int n : new int[] {61, HIGH}) {
            refused.is("sheet(1, 1, " + n + ")", x -> x.sheet(1, 1, n), BAD);
        }
        for (int n : new int[] {-1, -61, LOW}) {
            refused.is("sheet(1, 0, " + n + ")", x -> x.sheet(1, 0, n), SIZE);
            refused.is("sheet(3, 0, " + n + ")", x -> x.sheet(3, 0, n), SIZE);
        }
    }

    // Promise 21: "BAD: SHEET, FORM, above 60; SIZE", and "the first that fits, in the order told at each act".
    private static void sheetIsBadAheadOfSize() {
        refused.is("sheet(4, 1, -1)", x -> x.sheet(4, 1, -1), BAD);
        refused.is("sheet(-1, 1, -1)", x -> x.sheet(-1, 1, -1), BAD);
        refused.is("sheet(1, 3, -1)", x -> x.sheet(1, 3, -1), BAD);
        refused.is("sheet(1, -1, -1)", x -> x.sheet(1, -1, -1), BAD);
    }

    // Promise 22: "BAD; NULL."
    private static void lose() {
        for (int s : Make.outside(0, 3)) {
            refused.is("lose(" + s + ")", x -> x.lose(s), BAD);
        }
        refused.is("lose(3)", x -> x.lose(3), NULL);
    }

    // Promise 23: "BAD; NULL; CAST; INDEX": each of them.
    private static void lay() {
        for (int s : Make.outside(0, 3)) {
            refused.is("lay(" + s + ", 1, 0, 9)", x -> x.lay(s, 1, 0, 9), BAD);
        }
        for (int form : Make.outside(0, 2)) {
            refused.is("lay(1, " + form + ", 0, 9)", x -> x.lay(1, form, 0, 9), BAD);
        }
        refused.is("lay(3, 1, 0, 9)", x -> x.lay(3, 1, 0, 9), NULL);
        refused.is("lay(1, 0, 0, 9)", x -> x.lay(1, 0, 0, 9), CAST);
        refused.is("lay(1, 2, 0, 9)", x -> x.lay(1, 2, 0, 9), CAST);
        for (int item : Make.outside(0, 4)) {
            refused.is("lay(1, 1, " + item + ", 9)", x -> x.lay(1, 1, item, 9), INDEX);
        }
    }

    // Promise 23: "BAD; NULL; CAST; INDEX", and "the first that fits, in the order told at each act".
    private static void layInItsOrder() {
        refused.is("no such sheet, no such item", x -> x.lay(4, 1, -1, 9), BAD);
        refused.is("no such form, LOST", x -> x.lay(3, 3, 0, 9), BAD);
        refused.is("no such form, no such item", x -> x.lay(1, -1, 5, 9), BAD);
        refused.is("LOST, of another form, no such item", x -> x.lay(3, 2, 9, 9), NULL);
        refused.is("LOST, no such item", x -> x.lay(3, 1, -1, 9), NULL);
        refused.is("of another form, no such item", x -> x.lay(1, 2, 5, 9), CAST);
        refused.is("of another form, no such item", x -> x.lay(2, 1, -1, 9), CAST);
    }

    // Promise 24: "BAD; NULL; CAST; INDEX. (As the least long and x more.)": each of them.
    private static void get() {
        for (int s : Make.outside(0, 3)) {
            refused.is("get(" + s + ", 1, 0)", x -> x.get(s, 1, 0), LEAST + 2);
        }
        for (int form : Make.outside(0, 2)) {
            refused.is("get(1, " + form + ", 0)", x -> x.get(1, form, 0), LEAST + 2);
        }
        refused.is("get(3, 1, 0)", x -> x.get(3, 1, 0), LEAST + 11);
        refused.is("get(1, 0, 0)", x -> x.get(1, 0, 0), LEAST + 13);
        refused.is("get(1, 2, 0)", x -> x.get(1, 2, 0), LEAST + 13);
        for (int item : Make.outside(0, 4)) {
            refused.is("get(1, 1, " + item + ")", x -> x.get(1, 1, item), LEAST + 12);
        }
    }

    // Promise 24: "BAD; NULL; CAST; INDEX", and "the first that fits, in the order told at each act".
    private static void getInItsOrder() {
        refused.is("no such sheet, no such item", x -> x.get(-1, 1, -1), LEAST + 2);
        refused.is("no such form, LOST", x -> x.get(3, 3, 0), LEAST + 2);
        refused.is("no such form, no such item", x -> x.get(1, -1, 5), LEAST + 2);
        refused.is("LOST, of another form, no such item", x -> x.get(3, 2, 9), LEAST + 11);
        refused.is("LOST, no such item", x -> x.get(3, 1, -1), LEAST + 11);
        refused.is("of another form, no such item", x -> x.get(1, 2, 5), LEAST + 13);
        refused.is("of another form, no such item", x -> x.get(2, 1, -1), LEAST + 13);
    }

    // Promise 25: "BAD: the SHEETS; NULL: s, t; STORE; INDEX": each of them, by s and by t.
    private static void copy() {
        for (int s : Make.outside(0, 3)) {
            refused.is("copy(" + s + ", 0, 1, 0, 1)", x -> x.copy(s, 0, 1, 0, 1), BAD);
            refused.is("copy(1, 0, " + s + ", 0, 1)", x -> x.copy(1, 0, s, 0, 1), BAD);
        }
        refused.is("s is LOST", x -> x.copy(3, 0, 1, 0, 1), NULL);
        refused.is("t is LOST", x -> x.copy(1, 0, 3, 0, 1), NULL);
        refused.is("both are LOST", x -> x.copy(3, 0, 3, 0, 1), NULL);
        refused.is("shorts to ints", x -> x.copy(0, 0, 1, 0, 1), STORE);
        refused.is("longs to ints", x -> x.copy(2, 0, 1, 0, 1), STORE);
        refused.is("ints to longs", x -> x.copy(1, 0, 2, 0, 1), STORE);
        int[][] told = {{-1, 0, 1}, {0, -1, 1}, {0, 0, -1}, {5, 0, 1}, {0, 5, 1}, {3, 0, 3}, {0, 3, 3}, {6, 0, 0},
            {0, 6, 0}, {0, 0, HIGH}, {HIGH, HIGH, HIGH}, {LOW, LOW, LOW}};
        for (int[] at : told) {
            refused.is("copy(1, " + at[0] + ", 1, " + at[1] + ", " + at[2] + ")",
                    x -> x.copy(1, at[0], 1, at[1], at[2]), INDEX);
        }
    }

    // Promise 25: "BAD: the SHEETS; NULL: s, t; STORE; INDEX", and "the first that fits, in the order told at each
    // act".
    private static void copyInItsOrder() {
        refused.is("no such t, s is LOST", x -> x.copy(3, 0, 4, 0, 1), BAD);
        refused.is("no such s, t is LOST", x -> x.copy(-1, 0, 3, 0, 1), BAD);
        refused.is("no such t, no such items", x -> x.copy(1, -1, 4, -1, -1), BAD);
        refused.is("s is LOST, of another form", x -> x.copy(3, 0, 2, 0, 1), NULL);
        refused.is("t is LOST, of another form", x -> x.copy(2, 0, 3, 0, 1), NULL);
        refused.is("t is LOST, no such items", x -> x.copy(1, 9, 3, 9, -1), NULL);
        refused.is("s is LOST, of none", x -> x.copy(3, 0, 1, 0, 0), NULL);
        refused.is("of another form, no such items", x -> x.copy(1, -1, 2, 9, -1), STORE);
        refused.is("of another form, of none", x -> x.copy(1, 0, 2, 0, 0), STORE);
    }

    // Promise 26: "BAD; NULL."
    private static void write() {
        for (int s : Make.outside(0, 3)) {
            refused.is("write(" + s + ")", x -> x.write(s), BAD);
        }
        refused.is("write(3)", x -> x.write(3), NULL);
    }

    // Promise 27: "BAD": no such what.
    private static void count() {
        for (int what : Make.outside(0, 8)) {
            refused.is("count(" + what + ")", x -> x.count(what), BAD);
        }
    }
}
