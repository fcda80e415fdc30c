/**
 * Long rows of calls, the same each time, on the program and on the Model: every answer is compared. An object is used
 * for 512 calls at most, so an object has CALLS of them, some with a get() behind, and what whole() asks: 180 and 300
 * at the most.
 */
public final class ModelTest {
    private static final int OBJECTS = 400;
    private static final int CALLS = 90;

    private static final Due due = new Due("ModelTest");
    private static long state = 20261119L;

    private static int settled = 0, unsettled = 0, manyRounds = 0, unlikeWays = 0, noQuick = 0, noMargin = 0;

    public static void main(String[] args) {
        for (int object = 0; object < OBJECTS; object++) {
            OffsetChains x = new OffsetChains();
            Model m = new Model();
            int kind = object % 4;
            for (int call = 0; call < CALLS; call++) {
                one(object + "/" + call, kind, x, m);
            }
            whole(Integer.toString(object), x, m);
        }
        reached("a settled one", settled);
        reached("one that is not settled", unsettled);
        reached("more than 3 rounds", manyRounds);
        reached("SEARCHED less than BOUND", unlikeWays);
        reached("no QUICK, but BOUND", noQuick);
        reached("no MARGIN", noMargin);
        due.end();
    }

    /** The rows must go where it matters, or the comparing tells nothing. */
    private static void reached(String what, int often) {
        System.out.println("ModelTest: " + what + ": " + often);
        due.is("reached " + what, often > 0 ? 1 : 0, 1);
    }

    private static int any(int least, int most) {
        state = state * 6364136223846793005L + 1442695040888963407L;
        return least + (int) ((state >>> 33) % (most - least + 1));
    }

    /** Mostly within the borders, now and then just outside, or as far outside as can be. */
    private static int near(int least, int most) {
        switch (any(0, 79)) {
            case 0: case 1: return least - 1;
            case 2: case 3: return most + 1;
            case 4: case 5: return least;
            case 6: case 7: return most;
            case 8: return any(0, 1) == 0 ? Integer.MIN_VALUE : Integer.MAX_VALUE;
            default: return any(least, most);
        }
    }

    private static int cost(int kind) {
        return any(0, 14) == 0 ? near(1, 20) : kind == 0 ? any(1, 20) : any(1, kind == 1 ? 4 : 9);
    }

    private static int period(int kind) {
        if (any(0, 14) == 0) return near(5, 100);
        return kind == 0 ? any(5, 100) : any(kind == 1 ? 12 : 25, kind == 3 ? 40 : 100);
    }

    private static int trait(int kind, int what) {
        switch (what) {
            case 0: return period(kind);
            case 1: return near(0, 30);
            case 2: return near(0, 200);
            case 3: return near(0, 99);
            default: return near(0, 9);
        }
    }

    private static int mark(int kind, int what) {
        switch (what) {
            case 0: return kind == 3 ? 0 : near(0, 1);
            case 1: return cost(kind);
            case 2: return kind == 2 ? near(3, 5) : near(0, 9);
            default: return near(0, 20);
        }
    }

    private static void one(String at, int kind, OffsetChains x, Model m) {
        int i = near(0, 2), j = near(0, 2), s = near(0, 3), t = near(0, 3);
        int way = any(0, 27);
        if (way <= 4) {
            int node = mark(kind, 0), cost = mark(kind, 1), priority = mark(kind, 2), lag = mark(kind, 3);
            due.is(at + " step", x.step(i, node, cost, priority, lag), m.step(i, node, cost, priority, lag));
        } else if (way <= 8) {
            int what = near(0, 4), v = trait(kind, what);
            due.is(at + " chain", x.chain(i, what, v), m.chain(i, what, v));
        } else if (way == 9) {
            due.is(at + " back", x.back(i), m.back(i));
        } else if (way <= 12) {
            int what = near(0, 3), v = mark(kind, what);
            due.is(at + " tune", x.tune(i, j, what, v), m.tune(i, j, what, v));
        } else if (way <= 16) {
            answers(at, i, j, x, m);
        } else if (way == 17) {
            int h = near(1, 300);
            due.is(at + " run", x.run(h), m.run(h));
        } else if (way == 18) {
            int node = near(0, 1), tick = near(0, 299);
            due.is(at + " tick", x.tick(node, tick), m.tick(node, tick));
        } else {
            sheets(at, way, kind, i, s, t, x, m);
        }
    }

    private static void answers(String at, int i, int j, OffsetChains x, Model m) {
        int what = near(0, 8);
        int less = Math.floorMod(what, 5) - 1;
        int way = any(0, 11);
        switch (way) {
            case 0: due.is(at + " info", x.info(i, j, what), m.info(i, j, what)); break;
            case 1: due.is(at + " load", x.load(i, j, less), m.load(i, j, less)); break;
            case 2: due.is(at + " bound", x.bound(i, j), m.bound(i, j)); break;
            case 3: due.is(at + " searched", x.searched(i, j), m.searched(i, j)); break;
            case 4: due.is(at + " quick", x.quick(i, j), m.quick(i, j)); break;
            case 5: due.is(at + " rounds", x.rounds(), m.rounds()); break;
            case 6: due.is(at + " worst", x.worst(i, j, less), m.worst(i, j, less)); break;
            case 7: due.is(at + " meets", x.meets(), m.meets()); break;
            case 8: {
                int margin = x.margin(i, j);
                noMargin += margin == -1 ? 1 : 0;
                due.is(at + " margin", margin, m.margin(i, j));
                break;
            }
            case 9: due.is(at + " better", x.better(i, j, less), m.better(i, j, less)); break;
            case 10: due.is(at + " seen", x.seen(i, j, less), m.seen(i, j, less)); break;
            default: due.is(at + " count", x.count(what), m.count(what)); break;
        }
    }

    private static void sheets(String at, int way, int kind, int i, int s, int t, OffsetChains x, Model m) {
        int form = any(0, 3) == 0 ? near(0, 2) : 1;
        int item = near(0, 12);
        if (way <= 20) {
            int n = any(0, 9) == 0 ? near(0, 60) : near(0, 12);
            due.is(at + " sheet", x.sheet(s, form, n), m.sheet(s, form, n));
        } else if (way <= 24) {
            int v = any(0, 5) == 0 ? any(0, Integer.MAX_VALUE - 1) - 1073741824 : mark(kind, Math.floorMod(item, 4));
            due.is(at + " lay", x.lay(s, form, item, v), m.lay(s, form, item, v));
            due.is(at + " get", x.get(s, form, item), m.get(s, form, item));
        } else if (way == 25) {
            int j = near(0, 12), n = near(0, 8);
            due.is(at + " copy", x.copy(s, item, t, j, n), m.copy(s, item, t, j, n));
        } else if (way == 26) {
            due.is(at + " write", x.write(s), m.write(s));
        } else if (any(0, 3) == 0) {
            due.is(at + " lose", x.lose(s), m.lose(s));
        } else {
            due.is(at + " read", x.read(i, s), m.read(i, s));
        }
    }

    private static void whole(String at, OffsetChains x, Model m) {
        due.is(at + " run", x.run(150), m.run(150));
        due.is(at + " digest", x.digest(), m.digest());
        int rounds = x.rounds();
        if (rounds == -1) unsettled++; else settled++;
        if (rounds > 3) manyRounds++;
        for (int i = 0; i < 3; i++) {
            for (int j = 0; j < x.has(i, 5); j++) {
                if (x.searched(i, j) < x.bound(i, j)) unlikeWays++;
                if (x.quick(i, j) == -1 && x.bound(i, j) != -1) noQuick++;
            }
        }
        for (int s = 0; s < 4; s++) {
            int form = m.rows[s] == null ? 1 : m.rows[s].form;
            int items = m.rows[s] == null ? 0 : m.rows[s].items.length;
            for (int item = -1; item <= items; item++) {
                due.is(at + " get", x.get(s, form, item), m.get(s, form, item));
            }
        }
    }
}
