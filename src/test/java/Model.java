import java.util.ArrayList;
import java.util.List;

/**
 * The document once more, in its plainest form and made apart from the program: every time is looked for from 1 on,
 * one by one, and nothing is kept between the calls but what was told.
 */
final class Model {
    static final class Step {
        int chain, at, node, cost, priority, lag;

        int number() {
            return 3 * chain + at;
        }
    }

    static final class Job {
        Step step;
        int n, release, done, end = -1;
        Job before;
        int ready = -1;
    }

    static final class Row {
        int form;
        long[] items;
    }

    static final class Found {
        boolean settled;
        int rounds = -1;
        int[] late = new int[9];
        int[] bound = new int[9];
        int[][] worst = new int[9][3];
    }

    final int[][] trait = {{20, 0, 0, 0, 0}, {20, 0, 0, 0, 0}, {20, 0, 0, 0, 0}};
    final List<List<Step>> chains = new ArrayList<>();
    final Row[] rows = new Row[4];
    int finding = 0;
    int ranTicks = 0;
    int ranEnded = 0;
    final int[][] ranDid = new int[2][300];
    final int[] ranIdle = new int[2];
    final List<Job> ranJobs = new ArrayList<>();

    Model() {
        for (int i = 0; i < 3; i++) {
            chains.add(new ArrayList<>());
        }
    }

    // ---- what is told

    private static boolean in(long v, long least, long most) {
        return least <= v && v <= most;
    }

    private static boolean legalTrait(int what, int v) {
        switch (what) {
            case 0: return in(v, 5, 100);
            case 1: return in(v, 0, 30);
            case 2: return in(v, 0, 200);
            case 3: return in(v, 0, 99);
            case 4: return in(v, 0, 9);
            default: return false;
        }
    }

    private static boolean legalMark(int what, long v) {
        switch (what) {
            case 0: return in(v, 0, 1);
            case 1: return in(v, 1, 20);
            case 2: return in(v, 0, 9);
            case 3: return in(v, 0, 20);
            default: return false;
        }
    }

    private static int mark(Step s, int what) {
        return what == 0 ? s.node : what == 1 ? s.cost : what == 2 ? s.priority : s.lag;
    }

    private static void mark(Step s, int what, int v) {
        if (what == 0) s.node = v;
        if (what == 1) s.cost = v;
        if (what == 2) s.priority = v;
        if (what == 3) s.lag = v;
    }

    private Step at(int i, int j) {
        return in(i, 0, 2) && j >= 0 && j < chains.get(i).size() ? chains.get(i).get(j) : null;
    }

    private List<Step> all() {
        List<Step> all = new ArrayList<>();
        for (List<Step> chain : chains) all.addAll(chain);
        return all;
    }

    int chain(int i, int what, int v) {
        if (!in(i, 0, 2) || !legalTrait(what, v)) return -2;
        int was = trait[i][what];
        trait[i][what] = v;
        return was;
    }

    int step(int i, int node, int cost, int priority, int lag) {
        if (!in(i, 0, 2) || !legalMark(0, node) || !legalMark(1, cost) || !legalMark(2, priority)
                || !legalMark(3, lag)) {
            return -2;
        }
        if (chains.get(i).size() == 3) return -4;
        Step s = new Step();
        s.chain = i;
        s.at = chains.get(i).size();
        s.node = node;
        s.cost = cost;
        s.priority = priority;
        s.lag = lag;
        chains.get(i).add(s);
        return s.at;
    }

    int back(int i) {
        if (!in(i, 0, 2)) return -2;
        int size = chains.get(i).size();
        if (size == 0) return -3;
        chains.get(i).remove(size - 1);
        return size - 1;
    }

    int tune(int i, int j, int what, int v) {
        Step s = at(i, j);
        if (s == null || !legalMark(what, v)) return -2;
        int was = mark(s, what);
        mark(s, what, v);
        return was;
    }

    int read(int i, int s) {
        if (!in(i, 0, 2) || !in(s, 0, 3)) return -2;
        if (rows[s] == null) return found(1);
        long[] items = rows[s].items;
        int taken = 0;
        for (int a = 0; a + 4 <= items.length; a += 4) {
            boolean fits = chains.get(i).size() < 3;
            for (int w = 0; w < 4; w++) fits &= legalMark(w, items[a + w]);
            if (!fits) break;
            step(i, (int) items[a], (int) items[a + 1], (int) items[a + 2], (int) items[a + 3]);
            taken++;
        }
        return taken;
    }

    int has(int i, int what) {
        if (!in(i, 0, 2) || !in(what, 0, 5)) return -2;
        return what == 5 ? chains.get(i).size() : trait[i][what];
    }

    int info(int i, int j, int what) {
        Step s = at(i, j);
        if (s == null || !in(what, 0, 6)) return -2;
        if (what < 4) return mark(s, what);
        if (what == 4) return earliest(s);
        if (what == 6) return rivals(s).size();
        Found f = find();
        return f.settled ? f.late[s.number()] : -1;
    }

    // ---- terms

    private int period(Step s) {
        return trait[s.chain][0];
    }

    int earliest(Step s) {
        int sum = 0;
        for (Step o : chains.get(s.chain)) {
            if (o.at <= s.at) sum += o.lag;
            if (o.at < s.at) sum += o.cost;
        }
        return sum;
    }

    List<Step> rivals(Step x) {
        List<Step> list = new ArrayList<>();
        for (Step y : all()) {
            if (y != x && y.node == x.node && y.priority >= x.priority) list.add(y);
        }
        return list;
    }

    /** Above and below, in lowest terms. */
    long[] loadOf(Step x) {
        long above = x.cost, below = period(x);
        for (Step y : rivals(x)) {
            above = above * period(y) + (long) y.cost * below;
            below = below * period(y);
            for (long d = 2; d <= 100; d++) {
                while (above % d == 0 && below % d == 0) {
                    above /= d;
                    below /= d;
                }
            }
        }
        for (long d = 2; d <= 100; d++) {
            while (above % d == 0 && below % d == 0) {
                above /= d;
                below /= d;
            }
        }
        return new long[] {above, below};
    }

    private static int ceil(int a, int b) {
        return -Math.floorDiv(-a, b);
    }

    private int phi(int[] late, Step j, Step k) {
        int T = period(j);
        int rest = (earliest(k) + late[k.number()] - earliest(j)) % T;
        if (rest < 0) rest += T;
        return T - rest;
    }

    private int comes(int[] late, Step j, Step k, int t) {
        int phi = phi(late, j, k);
        return (late[j.number()] + phi) / period(j) + ceil(t - phi, period(j));
    }

    private int work(int[] late, Step x, Step k, int t) {
        int sum = 0;
        for (Step y : rivals(x)) {
            if (y.chain == k.chain) sum += comes(late, y, k, t) * y.cost;
        }
        return sum;
    }

    private List<Step> moments(Step x, int chain) {
        List<Step> list = new ArrayList<>();
        List<Step> rivals = rivals(x);
        for (Step y : chains.get(chain)) {
            if (y == x || rivals.contains(y)) list.add(y);
        }
        return list;
    }

    /** By each chain the moments among which the greatest work is taken. */
    private int others(int[] late, Step x, List<List<Step>> among, int t) {
        int sum = 0;
        for (int c = 0; c < 3; c++) {
            if (c == x.chain) continue;
            int most = 0;
            for (Step k : among.get(c)) most = Math.max(most, work(late, x, k, t));
            sum += most;
        }
        return sum;
    }

    /** The greatest answer, k, Q, BUSY; null: a BUSY, or an END, is none. */
    private int[] longest(int[] late, Step x, List<List<Step>> among) {
        int[] best = null;
        for (Step k : moments(x, x.chain)) {
            int busy = -1;
            for (int t = 1; t <= 200 && busy < 0; t++) {
                if (t == comes(late, x, k, t) * x.cost + work(late, x, k, t) + others(late, x, among, t)) busy = t;
            }
            if (busy < 0) return null;
            int n = (late[x.number()] + phi(late, x, k)) / period(x);
            for (int q = 0; q < comes(late, x, k, busy); q++) {
                int end = -1;
                for (int t = 1; t <= 200 && end < 0; t++) {
                    if (t == (q + 1) * x.cost + work(late, x, k, t) + others(late, x, among, t)) end = t;
                }
                if (end < 0) return null;
                int answer = end - phi(late, x, k) - period(x) * (q - n) + earliest(x);
                if (best == null || answer > best[0]) best = new int[] {answer, k.at, q, busy};
            }
        }
        return best;
    }

    private List<List<Step>> allMoments(Step x) {
        List<List<Step>> among = new ArrayList<>();
        for (int c = 0; c < 3; c++) among.add(moments(x, c));
        return among;
    }

    Found find() {
        Found f = new Found();
        for (Step s : all()) f.late[s.number()] = s.at == 0 ? trait[s.chain][1] : 0;
        for (int round = 1; round <= 20; round++) {
            for (Step x : all()) {
                long[] load = loadOf(x);
                int[] best = load[0] > load[1] ? null : longest(f.late, x, allMoments(x));
                if (best == null) return f;
                f.bound[x.number()] = best[0];
                f.worst[x.number()] = new int[] {best[1], best[2], best[3]};
            }
            boolean changed = false;
            for (Step x : all()) {
                if (x.at == 0) continue;
                int late = f.bound[x.number() - 1] + x.lag - earliest(x);
                if (late > f.late[x.number()]) {
                    f.late[x.number()] = late;
                    changed = true;
                }
            }
            if (!changed) {
                f.settled = true;
                f.rounds = round;
                return f;
            }
        }
        return f;
    }

    // ---- answers

    int load(int i, int j, int what) {
        Step x = at(i, j);
        return x == null || !in(what, 0, 1) ? -2 : (int) loadOf(x)[what];
    }

    int bound(int i, int j) {
        Step x = at(i, j);
        if (x == null) return -2;
        Found f = find();
        return f.settled ? f.bound[x.number()] : -1;
    }

    int searched(int i, int j) {
        Step x = at(i, j);
        if (x == null) return -2;
        Found f = find();
        if (!f.settled) return -1;
        List<List<List<Step>>> ways = new ArrayList<>();
        ways.add(new ArrayList<>());
        for (int c = 0; c < 3; c++) {
            List<List<List<Step>>> more = new ArrayList<>();
            List<Step> moments = moments(x, c);
            for (List<List<Step>> way : ways) {
                if (moments.isEmpty()) more.add(with(way, new ArrayList<>()));
                for (Step k : moments) more.add(with(way, new ArrayList<>(List.of(k))));
            }
            ways = more;
        }
        int most = -1;
        for (List<List<Step>> way : ways) {
            int[] best = longest(f.late, x, way);
            if (best == null) return -1;
            most = Math.max(most, best[0]);
        }
        return most;
    }

    private static List<List<Step>> with(List<List<Step>> way, List<Step> more) {
        List<List<Step>> longer = new ArrayList<>(way);
        longer.add(more);
        return longer;
    }

    int quick(int i, int j) {
        Step x = at(i, j);
        if (x == null) return -2;
        Found f = find();
        if (!f.settled) return -1;
        int busy = -1;
        for (int t = 1; t <= 200 && busy < 0; t++) {
            if (t == quickComes(f, x, t) * x.cost + quickWork(f, x, t)) busy = t;
        }
        if (busy < 0) return -1;
        int most = -1;
        for (int q = 0; q < quickComes(f, x, busy); q++) {
            int end = -1;
            for (int t = 1; t <= 200 && end < 0; t++) {
                if (t == (q + 1) * x.cost + quickWork(f, x, t)) end = t;
            }
            if (end < 0) return -1;
            most = Math.max(most, end - period(x) * q + f.late[x.number()] + earliest(x));
        }
        return most;
    }

    private int quickComes(Found f, Step y, int t) {
        return ceil(f.late[y.number()] + t, period(y));
    }

    private int quickWork(Found f, Step x, int t) {
        int sum = 0;
        for (Step y : rivals(x)) sum += quickComes(f, y, t) * y.cost;
        return sum;
    }

    int rounds() {
        return find().rounds;
    }

    int worst(int i, int j, int what) {
        Step x = at(i, j);
        if (x == null || !in(what, 0, 2)) return -2;
        Found f = find();
        return f.settled ? f.worst[x.number()][what] : -1;
    }

    int meets() {
        Found f = find();
        int bits = 0;
        for (int c = 0; c < 3; c++) {
            List<Step> chain = chains.get(c);
            if (f.settled && !chain.isEmpty() && trait[c][2] > 0
                    && f.bound[chain.get(chain.size() - 1).number()] <= trait[c][2]) {
                bits += 1 << c;
            }
        }
        return bits;
    }

    private boolean allMeet() {
        int due = 0;
        for (int c = 0; c < 3; c++) {
            if (!chains.get(c).isEmpty() && trait[c][2] > 0) due += 1 << c;
        }
        return due == meets();
    }

    int margin(int i, int j) {
        Step x = at(i, j);
        if (x == null) return -2;
        int cost = x.cost;
        int greatest = -1;
        for (int more = 0; more <= 8; more++) {
            x.cost = cost + more;
            if (allMeet()) greatest = more;
        }
        x.cost = cost;
        return greatest;
    }

    int better(int i, int j, int what) {
        Step x = at(i, j);
        if (x == null || !in(what, 0, 1)) return -2;
        int was = x.priority;
        int priority = -1, least = -1;
        for (int p = 9; p >= 0; p--) {
            x.priority = p;
            int bound = bound(i, chains.get(i).size() - 1);
            if (bound != -1 && (least == -1 || bound <= least)) {
                least = bound;
                priority = p;
            }
        }
        x.priority = was;
        return what == 0 ? priority : least;
    }

    // ---- runs

    int run(int h) {
        if (!in(h, 1, 300)) return -2;
        ranTicks = h;
        ranEnded = 0;
        ranJobs.clear();
        List<int[]> marks = new ArrayList<>();
        for (int c = 0; c < 3; c++) {
            int ready = 0;
            for (int n = 0; n < 100; n++) {
                int release = trait[c][3] + n * trait[c][0];
                Job before = null;
                for (Step s : chains.get(c)) {
                    Job job = new Job();
                    job.step = new Step();
                    job.step.chain = s.chain;
                    job.step.at = s.at;
                    job.step.node = s.node;
                    job.step.cost = s.cost;
                    job.step.priority = s.priority;
                    job.step.lag = s.lag;
                    job.n = n;
                    job.release = release;
                    job.before = before;
                    if (s.at == 0) {
                        ready = Math.max(ready, release + s.lag + n * trait[c][4] % (trait[c][1] + 1));
                        job.ready = ready;
                    }
                    ranJobs.add(job);
                    before = job;
                }
            }
        }
        for (int node = 0; node < 2; node++) {
            ranIdle[node] = 0;
        }
        for (int t = 0; t < h; t++) {
            Job[] chosen = new Job[2];
            for (int node = 0; node < 2; node++) {
                for (Job job : ranJobs) {
                    if (job.step.node == node && job.end < 0 && isReady(job, t)
                            && (chosen[node] == null || isAhead(job, chosen[node]))) {
                        chosen[node] = job;
                    }
                }
            }
            for (int node = 0; node < 2; node++) {
                ranDid[node][t] = chosen[node] == null ? -1 : chosen[node].step.number();
                if (chosen[node] == null) {
                    ranIdle[node]++;
                } else if (++chosen[node].done == chosen[node].step.cost) {
                    chosen[node].end = t + 1;
                    ranEnded++;
                }
            }
        }
        return ranEnded;
    }

    private static boolean isReady(Job job, int t) {
        if (job.before == null) return job.ready <= t;
        return job.before.end >= 0 && job.before.end + job.step.lag <= t;
    }

    private static boolean isAhead(Job one, Job other) {
        if (one.step.priority != other.step.priority) return one.step.priority > other.step.priority;
        if (one.step.number() != other.step.number()) return one.step.number() < other.step.number();
        return one.n < other.n;
    }

    int seen(int i, int j, int what) {
        if (at(i, j) == null || !in(what, 0, 2)) return -2;
        int most = -1, least = -1, many = 0;
        for (Job job : ranJobs) {
            if (job.step.number() != 3 * i + j || job.end < 0) continue;
            int answer = job.end - job.release;
            most = Math.max(most, answer);
            least = many == 0 ? answer : Math.min(least, answer);
            many++;
        }
        return what == 0 ? most : what == 1 ? least : many;
    }

    int tick(int node, int t) {
        if (!in(node, 0, 1) || !in(t, 0, 299)) return -2;
        return t < ranTicks ? ranDid[node][t] : -1;
    }

    // ---- sheets

    private int found(int number) {
        finding = number;
        return -10 - number;
    }

    int sheet(int s, int form, int n) {
        if (!in(s, 0, 3) || !in(form, 0, 2) || n > 60) return -2;
        if (n < 0) return found(5);
        rows[s] = new Row();
        rows[s].form = form;
        rows[s].items = new long[n];
        return n;
    }

    int lose(int s) {
        if (!in(s, 0, 3)) return -2;
        if (rows[s] == null) return found(1);
        int n = rows[s].items.length;
        rows[s] = null;
        return n;
    }

    private int trouble(int s, int form, int i) {
        if (rows[s] == null) return 1;
        if (rows[s].form != form) return 3;
        return i < 0 || i >= rows[s].items.length ? 2 : 0;
    }

    int lay(int s, int form, int i, int v) {
        if (!in(s, 0, 3) || !in(form, 0, 2)) return -2;
        int trouble = trouble(s, form, i);
        if (trouble > 0) return found(trouble);
        long item = v;
        if (form == 2) item = 100000007L * v;
        if (form == 0) item = ((v + 32768) & 65535) - 32768;
        rows[s].items[i] = item;
        return 1;
    }

    long get(int s, int form, int i) {
        if (!in(s, 0, 3) || !in(form, 0, 2)) return Long.MIN_VALUE + 2;
        int trouble = trouble(s, form, i);
        if (trouble > 0) {
            found(trouble);
            return Long.MIN_VALUE + 10 + trouble;
        }
        return rows[s].items[i];
    }

    int copy(int s, int i, int t, int j, int n) {
        if (!in(s, 0, 3) || !in(t, 0, 3)) return -2;
        if (rows[s] == null || rows[t] == null) return found(1);
        if (rows[s].form != rows[t].form) return found(4);
        if (i < 0 || j < 0 || n < 0 || (long) i + n > rows[s].items.length || (long) j + n > rows[t].items.length) {
            return found(2);
        }
        long[] were = rows[s].items.clone();
        for (int a = 0; a < n; a++) rows[t].items[j + a] = were[i + a];
        return 1;
    }

    int write(int s) {
        if (!in(s, 0, 3)) return -2;
        if (rows[s] == null) return found(1);
        int a = 0;
        Found f = find();
        for (Step x : all()) {
            if (a == rows[s].items.length) break;
            rows[s].items[a++] = f.settled ? f.bound[x.number()] : -1;
        }
        return a;
    }

    int count(int what) {
        switch (what) {
            case 0: return all().size();
            case 1: return find().settled ? 1 : 0;
            case 2: return Integer.bitCount(meets());
            case 3: return ranEnded;
            case 4: return ranIdle[0];
            case 5: return ranIdle[1];
            case 6: return ranTicks;
            case 7: {
                int sum = 0;
                for (Step x : all()) {
                    long[] load = loadOf(x);
                    if (load[0] > load[1]) sum++;
                }
                return sum;
            }
            case 8: return finding;
            default: return -2;
        }
    }

    long digest() {
        List<Long> told = new ArrayList<>();
        for (int w = 0; w < 8; w++) told.add((long) count(w));
        told.add((long) rounds());
        told.add((long) meets());
        for (int i = 0; i < 3; i++) for (int w = 0; w < 6; w++) told.add((long) has(i, w));
        for (Step s : all()) {
            int i = s.chain, j = s.at;
            for (int w = 0; w < 7; w++) told.add((long) info(i, j, w));
            for (int w = 0; w < 2; w++) told.add((long) load(i, j, w));
            told.add((long) bound(i, j));
            told.add((long) searched(i, j));
            told.add((long) quick(i, j));
            for (int w = 0; w < 3; w++) told.add((long) worst(i, j, w));
            for (int w = 0; w < 3; w++) told.add((long) seen(i, j, w));
        }
        for (int t = 0; t < 60; t++) for (int node = 0; node < 2; node++) told.add((long) tick(node, t));
        long h = 17;
        for (long v : told) h = 31 * h + v;
        return h;
    }
}
