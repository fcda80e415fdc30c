import java.util.Arrays;

/**
 * Answer times of chains of steps with offsets: bounds by worst moments, a search among the moments, a quick count,
 * lateness passed down the chains until it settles, and runs tick by tick. The words in capitals in the comments are
 * the terms of the document.
 */
public final class OffsetChains {
    public static final int NONE = -1, BAD = -2, NOT = -3, FULL = -4;

    private static final int CHAINS = 3;
    private static final int STEPS_EACH = 3;
    private static final int STEPS = CHAINS * STEPS_EACH;
    private static final int NODES = 2;

    private static final int PERIOD = 0, JITTER = 1, DEADLINE = 2, PHASE = 3, STRIDE = 4, TRAITS = 5;
    private static final int[] TRAIT_LEAST = {5, 0, 0, 0, 0};
    private static final int[] TRAIT_MOST = {100, 30, 200, 99, 9};
    private static final int FIRST_PERIOD = 20;

    private static final int NODE = 0, COST = 1, PRIORITY = 2, LAG = 3, MARKS = 4;
    private static final int[] MARK_LEAST = {0, 1, 0, 0};
    private static final int[] MARK_MOST = {1, 20, 9, 20};

    private static final int LONGEST_TIME = 200;
    private static final int MOST_ROUNDS = 20;
    private static final int MOST_MARGIN = 8;
    private static final int MOST_PRIORITY = 9;

    private static final int MOST_TICKS = 300;
    private static final int MOST_RELEASES = 60;

    private static final int SHEETS = 4;
    private static final int MOST_ITEMS = 60;
    private static final int SHORTS = 0, LONGS = 2;
    private static final long LONG_FACTOR = 100000007L;
    private static final long LEAST_LONG = -9223372036854775808L;

    private static final int NULL_FINDING = 1, INDEX_FINDING = 2, CAST_FINDING = 3, STORE_FINDING = 4,
            SIZE_FINDING = 5;

    private static final int DIGEST_TICKS = 60;

    private final Plan plan;
    private final Answers answers;
    private final Answers trial;
    private final Course course;
    private final Sheet[] sheets;
    private int finding;

    public OffsetChains() {
        plan = new Plan();
        answers = new Answers(plan);
        // What margin() and better() try out must not touch what is told of the plan as it is.
        trial = new Answers(plan);
        course = new Course();
        sheets = new Sheet[SHEETS];
        for (int s = 0; s < SHEETS; s++) {
            sheets[s] = new Sheet();
        }
        finding = 0;
    }

    // ---- chains, steps

    public int chain(int i, int what, int v) {
        if (!isChain(i) || !within(what, 0, TRAITS - 1) || !within(v, TRAIT_LEAST[what], TRAIT_MOST[what])) {
            return BAD;
        }
        int before = plan.traits[what][i];
        plan.traits[what][i] = v;
        answers.stale = true;
        return before;
    }

    public int step(int i, int node, int cost, int priority, int lag) {
        if (!isChain(i) || !isMark(NODE, node) || !isMark(COST, cost) || !isMark(PRIORITY, priority)
                || !isMark(LAG, lag)) {
            return BAD;
        }
        if (plan.many[i] >= STEPS_EACH) {
            return FULL;
        }
        answers.stale = true;
        return plan.append(i, node, cost, priority, lag);
    }

    public int back(int i) {
        if (!isChain(i)) {
            return BAD;
        }
        if (plan.many[i] == 0) {
            return NOT;
        }
        plan.many[i]--;
        answers.stale = true;
        return plan.many[i];
    }

    public int tune(int i, int j, int what, int v) {
        int x = plan.numberOf(i, j);
        if (x == NONE || !within(what, 0, MARKS - 1) || !isMark(what, v)) {
            return BAD;
        }
        int before = plan.marks[what][x];
        plan.marks[what][x] = v;
        answers.stale = true;
        return before;
    }

    public int read(int i, int s) {
        if (!isChain(i) || !isSheet(s)) {
            return BAD;
        }
        Sheet sheet = sheets[s];
        if (sheet.lost) {
            return found(NULL_FINDING);
        }
        int whole = sheet.size / MARKS;
        int taken = 0;
        while (taken < whole && plan.many[i] < STEPS_EACH && holdsStep(sheet, taken * MARKS)) {
            int at = taken * MARKS;
            plan.append(i, (int) sheet.items[at + NODE], (int) sheet.items[at + COST],
                    (int) sheet.items[at + PRIORITY], (int) sheet.items[at + LAG]);
            taken++;
        }
        if (taken > 0) {
            answers.stale = true;
        }
        return taken;
    }

    public int has(int i, int what) {
        if (!isChain(i) || !within(what, 0, TRAITS)) {
            return BAD;
        }
        return traitOf(i, what);
    }

    public int info(int i, int j, int what) {
        int x = plan.numberOf(i, j);
        if (x == NONE || !within(what, 0, 6)) {
            return BAD;
        }
        if (what == 5) {
            answers.settle();
        }
        return infoOf(x, what);
    }

    public int load(int i, int j, int what) {
        int x = plan.numberOf(i, j);
        if (x == NONE || !within(what, 0, 1)) {
            return BAD;
        }
        return plan.loadPart(x, what);
    }

    // ---- answers

    public int bound(int i, int j) {
        int x = plan.numberOf(i, j);
        if (x == NONE) {
            return BAD;
        }
        answers.settle();
        return answers.boundOf(x);
    }

    public int searched(int i, int j) {
        int x = plan.numberOf(i, j);
        if (x == NONE) {
            return BAD;
        }
        answers.settle();
        return answers.searchedOf(x);
    }

    public int quick(int i, int j) {
        int x = plan.numberOf(i, j);
        if (x == NONE) {
            return BAD;
        }
        answers.settle();
        return answers.quickOf(x);
    }

    public int rounds() {
        answers.settle();
        return answers.roundsTaken;
    }

    public int worst(int i, int j, int what) {
        int x = plan.numberOf(i, j);
        if (x == NONE || !within(what, 0, 2)) {
            return BAD;
        }
        answers.settle();
        return answers.worstOf(x, what);
    }

    public int meets() {
        answers.settle();
        return answers.meetingBits();
    }

    public int margin(int i, int j) {
        int x = plan.numberOf(i, j);
        if (x == NONE) {
            return BAD;
        }
        int cost = plan.marks[COST][x];
        int due = plan.dueBits();
        int greatest = NONE;
        for (int more = MOST_MARGIN; more >= 0 && greatest == NONE; more--) {
            plan.marks[COST][x] = cost + more;
            trial.stale = true;
            trial.settle();
            if (trial.meetingBits() == due) {
                greatest = more;
            }
        }
        plan.marks[COST][x] = cost;
        return greatest;
    }

    public int better(int i, int j, int what) {
        int x = plan.numberOf(i, j);
        if (x == NONE || !within(what, 0, 1)) {
            return BAD;
        }
        int last = plan.lastOf(i);
        int priority = plan.marks[PRIORITY][x];
        int bestPriority = NONE;
        int bestBound = NONE;
        for (int p = 0; p <= MOST_PRIORITY; p++) {
            plan.marks[PRIORITY][x] = p;
            trial.stale = true;
            trial.settle();
            int told = trial.boundOf(last);
            if (told != NONE && (bestBound == NONE || told < bestBound)) {
                bestPriority = p;
                bestBound = told;
            }
        }
        plan.marks[PRIORITY][x] = priority;
        return what == 0 ? bestPriority : bestBound;
    }

    // ---- runs

    public int run(int h) {
        if (!within(h, 1, MOST_TICKS)) {
            return BAD;
        }
        course.go(plan, h);
        return course.endedInAll;
    }

    public int seen(int i, int j, int what) {
        int x = plan.numberOf(i, j);
        if (x == NONE || !within(what, 0, 2)) {
            return BAD;
        }
        return course.seenOf(x, what);
    }

    public int tick(int node, int t) {
        if (!within(node, 0, NODES - 1) || !within(t, 0, MOST_TICKS - 1)) {
            return BAD;
        }
        return course.did[node][t];
    }

    // ---- sheets

    public int sheet(int s, int form, int n) {
        if (!isSheet(s) || !isForm(form) || n > MOST_ITEMS) {
            return BAD;
        }
        if (n < 0) {
            return found(SIZE_FINDING);
        }
        sheets[s].begin(form, n);
        return n;
    }

    public int lose(int s) {
        if (!isSheet(s)) {
            return BAD;
        }
        if (sheets[s].lost) {
            return found(NULL_FINDING);
        }
        sheets[s].lost = true;
        return sheets[s].size;
    }

    public int lay(int s, int form, int i, int v) {
        if (!isSheet(s) || !isForm(form)) {
            return BAD;
        }
        int trouble = sheets[s].troubleAt(form, i);
        if (trouble != 0) {
            return found(trouble);
        }
        sheets[s].put(i, form == LONGS ? v * LONG_FACTOR : v);
        return 1;
    }

    public long get(int s, int form, int i) {
        if (!isSheet(s) || !isForm(form)) {
            return LEAST_LONG - BAD;
        }
        int trouble = sheets[s].troubleAt(form, i);
        if (trouble != 0) {
            return LEAST_LONG - found(trouble);
        }
        return sheets[s].items[i];
    }

    public int copy(int s, int i, int t, int j, int n) {
        if (!isSheet(s) || !isSheet(t)) {
            return BAD;
        }
        Sheet from = sheets[s];
        Sheet to = sheets[t];
        if (from.lost || to.lost) {
            return found(NULL_FINDING);
        }
        if (from.form != to.form) {
            return found(STORE_FINDING);
        }
        if (!from.hasRange(i, n) || !to.hasRange(j, n)) {
            return found(INDEX_FINDING);
        }
        System.arraycopy(from.items, i, to.items, j, n);
        return 1;
    }

    public int write(int s) {
        if (!isSheet(s)) {
            return BAD;
        }
        Sheet sheet = sheets[s];
        if (sheet.lost) {
            return found(NULL_FINDING);
        }
        answers.settle();
        int written = 0;
        for (int x = 0; x < STEPS && written < sheet.size; x++) {
            if (plan.isStep(x)) {
                sheet.put(written, answers.boundOf(x));
                written++;
            }
        }
        return written;
    }

    public int count(int what) {
        if (!within(what, 0, 8)) {
            return BAD;
        }
        if (what == 1 || what == 2) {
            answers.settle();
        }
        return countOf(what);
    }

    public long digest() {
        answers.settle();
        long h = 17;
        for (int what = 0; what <= 7; what++) {
            h = 31 * h + countOf(what);
        }
        h = 31 * h + answers.roundsTaken;
        h = 31 * h + answers.meetingBits();
        for (int i = 0; i < CHAINS; i++) {
            for (int what = 0; what <= TRAITS; what++) {
                h = 31 * h + traitOf(i, what);
            }
        }
        for (int x = 0; x < STEPS; x++) {
            if (plan.isStep(x)) {
                h = withStep(h, x);
            }
        }
        for (int t = 0; t < DIGEST_TICKS; t++) {
            h = 31 * h + course.did[0][t];
            h = 31 * h + course.did[1][t];
        }
        return h;
    }

    // ---- what the calls share; where LATES or BOUNDS are told, the caller has settled them

    private static boolean within(long v, int least, int most) {
        return v >= least && v <= most;
    }

    private static boolean isChain(int i) {
        return within(i, 0, CHAINS - 1);
    }

    private static boolean isSheet(int s) {
        return within(s, 0, SHEETS - 1);
    }

    private static boolean isForm(int form) {
        return within(form, SHORTS, LONGS);
    }

    private static boolean isMark(int what, long v) {
        return within(v, MARK_LEAST[what], MARK_MOST[what]);
    }

    private static boolean holdsStep(Sheet sheet, int at) {
        for (int what = 0; what < MARKS; what++) {
            if (!isMark(what, sheet.items[at + what])) {
                return false;
            }
        }
        return true;
    }

    private int found(int number) {
        finding = number;
        return -10 - number;
    }

    private int traitOf(int i, int what) {
        return what == TRAITS ? plan.many[i] : plan.traits[what][i];
    }

    private int infoOf(int x, int what) {
        switch (what) {
            case 4:
                return plan.earliestOf(x);
            case 5:
                return answers.lateOf(x);
            case 6:
                return plan.rivalsOf(x);
            default:
                return plan.marks[what][x];
        }
    }

    private int countOf(int what) {
        switch (what) {
            case 0:
                return plan.stepsInAll();
            case 1:
                return answers.roundsTaken == NONE ? 0 : 1;
            case 2:
                return Integer.bitCount(answers.meetingBits());
            case 3:
                return course.endedInAll;
            case 4:
                return course.idle[0];
            case 5:
                return course.idle[1];
            case 6:
                return course.ticks;
            case 7:
                return plan.overloadedSteps();
            default:
                return finding;
        }
    }

    private long withStep(long before, int x) {
        long h = before;
        for (int what = 0; what <= 6; what++) {
            h = 31 * h + infoOf(x, what);
        }
        h = 31 * h + plan.loadPart(x, 0);
        h = 31 * h + plan.loadPart(x, 1);
        h = 31 * h + answers.boundOf(x);
        h = 31 * h + answers.searchedOf(x);
        h = 31 * h + answers.quickOf(x);
        for (int what = 0; what <= 2; what++) {
            h = 31 * h + answers.worstOf(x, what);
        }
        for (int what = 0; what <= 2; what++) {
            h = 31 * h + course.seenOf(x, what);
        }
        return h;
    }

    /** The chains and their steps as they are told. */
    private static final class Plan {
        /** By what, then by chain. */
        final int[][] traits = new int[TRAITS][CHAINS];
        /** By what, then by the number of the step. */
        final int[][] marks = new int[MARKS][STEPS];
        /** How many steps each chain has. */
        final int[] many = new int[CHAINS];

        Plan() {
            Arrays.fill(traits[PERIOD], FIRST_PERIOD);
        }

        int append(int i, int node, int cost, int priority, int lag) {
            int j = many[i];
            int x = i * STEPS_EACH + j;
            marks[NODE][x] = node;
            marks[COST][x] = cost;
            marks[PRIORITY][x] = priority;
            marks[LAG][x] = lag;
            many[i] = j + 1;
            return j;
        }

        /** The number of a step; NONE: there is no such step. */
        int numberOf(int i, int j) {
            if (!isChain(i) || !within(j, 0, many[i] - 1)) {
                return NONE;
            }
            return i * STEPS_EACH + j;
        }

        boolean isStep(int x) {
            return x % STEPS_EACH < many[x / STEPS_EACH];
        }

        int lastOf(int i) {
            return i * STEPS_EACH + many[i] - 1;
        }

        int stepsInAll() {
            return many[0] + many[1] + many[2];
        }

        /** It is divided by this, so it is never below 1. */
        int periodOf(int i) {
            return Math.max(1, traits[PERIOD][i]);
        }

        int earliestOf(int x) {
            int sum = marks[LAG][x];
            for (int y = x - x % STEPS_EACH; y < x; y++) {
                sum += marks[LAG][y] + marks[COST][y];
            }
            return sum;
        }

        boolean isRival(int x, int y) {
            return y != x && isStep(y) && marks[NODE][y] == marks[NODE][x]
                    && marks[PRIORITY][y] >= marks[PRIORITY][x];
        }

        int rivalsOf(int x) {
            int sum = 0;
            for (int y = 0; y < STEPS; y++) {
                if (isRival(x, y)) {
                    sum++;
                }
            }
            return sum;
        }

        private int loadBelow() {
            return periodOf(0) * periodOf(1) * periodOf(2);
        }

        /** Above loadBelow(), not in lowest terms. */
        private int loadAbove(int x) {
            int below = loadBelow();
            int sum = 0;
            for (int y = 0; y < STEPS; y++) {
                if (y == x || isRival(x, y)) {
                    sum += marks[COST][y] * (below / periodOf(y / STEPS_EACH));
                }
            }
            return sum;
        }

        boolean isOverloaded(int x) {
            return loadAbove(x) > loadBelow();
        }

        int overloadedSteps() {
            int sum = 0;
            for (int x = 0; x < STEPS; x++) {
                if (isStep(x) && isOverloaded(x)) {
                    sum++;
                }
            }
            return sum;
        }

        int loadPart(int x, int what) {
            int above = loadAbove(x);
            int below = loadBelow();
            int common = greatestDivisor(above, below);
            return (what == 0 ? above : below) / common;
        }

        private static int greatestDivisor(int one, int other) {
            int a = one;
            int b = other;
            // The rest halves at least in two turns, so numbers of 31 bits need no more than these.
            for (int turn = 0; turn < 64 && b > 0; turn++) {
                int rest = a % b;
                a = b;
                b = rest;
            }
            return Math.max(1, a);
        }

        /** The chains that have steps and a deadline. */
        int dueBits() {
            int bits = 0;
            for (int i = 0; i < CHAINS; i++) {
                if (many[i] > 0 && traits[DEADLINE][i] > 0) {
                    bits |= 1 << i;
                }
            }
            return bits;
        }
    }

    /** LATES, BOUNDS, WORST of a plan, and what rests on them. */
    private static final class Answers {
        private static final int ANY = -1;
        private static final int AS_IT_COMES = -1;
        /** In place of a moment: the rough count, that knows no offsets. */
        private static final int NO_MOMENT = -1;

        private final Plan plan;
        private final int[] periods = new int[CHAINS];
        private final int[] late = new int[STEPS];
        private final int[] bounds = new int[STEPS];
        private final int[] worstMoment = new int[STEPS];
        private final int[] worstTurn = new int[STEPS];
        private final int[] worstBusy = new int[STEPS];
        /** PHI of a step by a moment of its chain, and LATE and PHI by T, cut: at 3 times the step and the moment. */
        private final int[] phi = new int[STEPS * STEPS_EACH];
        private final int[] early = new int[STEPS * STEPS_EACH];
        /** The rivals of the step that is looked at: of each chain their steps, and how many. */
        private final int[] rivals = new int[STEPS];
        private final int[] rivalMany = new int[CHAINS];
        /** The one moment that is chosen of a chain, or ANY: the greatest work by any of them. */
        private final int[] chosen = new int[CHAINS];
        private int best;
        private int bestMoment;
        private int bestTurn;
        private int bestBusy;
        private int roundsTaken;
        /** The plan has changed since these were found. */
        private boolean stale;

        Answers(Plan plan) {
            this.plan = plan;
            roundsTaken = NONE;
            stale = true;
        }

        void settle() {
            if (!stale) {
                return;
            }
            stale = false;
            roundsTaken = NONE;
            for (int i = 0; i < CHAINS; i++) {
                periods[i] = plan.periodOf(i);
            }
            for (int x = 0; x < STEPS; x++) {
                late[x] = x % STEPS_EACH == 0 ? plan.traits[JITTER][x / STEPS_EACH] : 0;
            }
            for (int round = 1; round <= MOST_ROUNDS; round++) {
                if (!boundAll()) {
                    return;
                }
                if (!passLateness()) {
                    roundsTaken = round;
                    return;
                }
            }
        }

        int lateOf(int x) {
            return roundsTaken == NONE ? NONE : late[x];
        }

        int boundOf(int x) {
            return roundsTaken == NONE ? NONE : bounds[x];
        }

        int worstOf(int x, int what) {
            if (roundsTaken == NONE) {
                return NONE;
            }
            return what == 0 ? worstMoment[x] : what == 1 ? worstTurn[x] : worstBusy[x];
        }

        int meetingBits() {
            int due = plan.dueBits();
            int bits = 0;
            for (int i = 0; i < CHAINS && roundsTaken != NONE; i++) {
                if ((due >> i & 1) != 0 && bounds[plan.lastOf(i)] <= plan.traits[DEADLINE][i]) {
                    bits |= 1 << i;
                }
            }
            return bits;
        }

        int searchedOf(int x) {
            if (roundsTaken == NONE) {
                return NONE;
            }
            gatherRivals(x);
            int one = (x / STEPS_EACH + 1) % CHAINS;
            int other = (x / STEPS_EACH + 2) % CHAINS;
            int most = NONE;
            for (int a = 0; a == 0 || a < rivalMany[one]; a++) {
                chosen[one] = rivalMany[one] == 0 ? ANY : rivals[one * STEPS_EACH + a];
                for (int b = 0; b == 0 || b < rivalMany[other]; b++) {
                    chosen[other] = rivalMany[other] == 0 ? ANY : rivals[other * STEPS_EACH + b];
                    if (!findLongest(x)) {
                        return NONE;
                    }
                    most = Math.max(most, best);
                }
            }
            return most;
        }

        int quickOf(int x) {
            if (roundsTaken == NONE) {
                return NONE;
            }
            gatherRivals(x);
            int cost = plan.marks[COST][x];
            int period = periods[x / STEPS_EACH];
            int busy = leastTime(x, NO_MOMENT, AS_IT_COMES, 1);
            if (busy == NONE) {
                return NONE;
            }
            int often = quickComes(x, busy);
            int most = NONE;
            int end = 0;
            for (int turn = 0; turn < often; turn++) {
                end = leastTime(x, NO_MOMENT, turn + 1, end + cost);
                if (end == NONE) {
                    return NONE;
                }
                most = Math.max(most, end - period * turn + late[x] + plan.earliestOf(x));
            }
            return most;
        }

        /** Finds the BOUNDS by the LATES as they are; false: one is ENDLESS. */
        private boolean boundAll() {
            placeComings();
            for (int x = 0; x < STEPS; x++) {
                if (!plan.isStep(x)) {
                    continue;
                }
                gatherRivals(x);
                if (plan.isOverloaded(x) || !findLongest(x)) {
                    return false;
                }
                bounds[x] = best;
                worstMoment[x] = bestMoment;
                worstTurn[x] = bestTurn;
                worstBusy[x] = bestBusy;
            }
            return true;
        }

        /** Whether a LATE was changed. */
        private boolean passLateness() {
            boolean changed = false;
            for (int x = 0; x < STEPS; x++) {
                if (x % STEPS_EACH == 0 || !plan.isStep(x)) {
                    continue;
                }
                int passed = bounds[x - 1] + plan.marks[LAG][x] - plan.earliestOf(x);
                if (passed > late[x]) {
                    late[x] = passed;
                    changed = true;
                }
            }
            return changed;
        }

        private void placeComings() {
            for (int x = 0; x < STEPS; x++) {
                int i = x / STEPS_EACH;
                int period = periods[i];
                for (int k = 0; k < plan.many[i] && plan.isStep(x); k++) {
                    int moment = i * STEPS_EACH + k;
                    int apart = plan.earliestOf(moment) + late[moment] - plan.earliestOf(x);
                    int at = x * STEPS_EACH + k;
                    phi[at] = period - Math.floorMod(apart, period);
                    early[at] = (late[x] + phi[at]) / period;
                }
            }
        }

        private void gatherRivals(int x) {
            for (int i = 0; i < CHAINS; i++) {
                chosen[i] = ANY;
                rivalMany[i] = 0;
                for (int j = 0; j < plan.many[i]; j++) {
                    if (plan.isRival(x, i * STEPS_EACH + j)) {
                        rivals[i * STEPS_EACH + rivalMany[i]] = j;
                        rivalMany[i]++;
                    }
                }
            }
        }

        /** Goes through the moments of x's own chain, the others as chosen; false: a BUSY, or an END, is none. */
        private boolean findLongest(int x) {
            int i = x / STEPS_EACH;
            int cost = plan.marks[COST][x];
            int period = periods[i];
            int earliest = plan.earliestOf(x);
            // With x itself as the moment there is always an answer above 0.
            best = 0;
            for (int k = 0; k < plan.many[i]; k++) {
                int moment = i * STEPS_EACH + k;
                if (moment != x && !plan.isRival(x, moment)) {
                    continue;
                }
                int busy = leastTime(x, k, AS_IT_COMES, 1);
                if (busy == NONE) {
                    return false;
                }
                int at = x * STEPS_EACH + k;
                int often = comes(x, k, busy);
                int end = 0;
                for (int turn = 0; turn < often; turn++) {
                    // One more of x ends at least its COST behind the one before.
                    end = leastTime(x, k, turn + 1, end + cost);
                    if (end == NONE) {
                        return false;
                    }
                    int answer = end - phi[at] - period * (turn - early[at]) + earliest;
                    if (answer > best) {
                        best = answer;
                        bestMoment = k;
                        bestTurn = turn;
                        bestBusy = busy;
                    }
                }
            }
            return true;
        }

        /**
         * The least time that is what is needed within it. What is needed never falls as time grows, so going from a
         * time that is not above the least one to what is needed within it, again and again, stops just there.
         */
        private int leastTime(int x, int k, int turns, int from) {
            int t = from;
            for (int tries = 0; tries <= LONGEST_TIME && t <= LONGEST_TIME; tries++) {
                int next = k == NO_MOMENT ? quickNeeded(x, turns, t) : needed(x, k, turns, t);
                if (next == t) {
                    return t;
                }
                t = next;
            }
            return NONE;
        }

        private int needed(int x, int k, int turns, int t) {
            int own = x / STEPS_EACH;
            int often = turns == AS_IT_COMES ? comes(x, k, t) : turns;
            int sum = often * plan.marks[COST][x] + work(own, k, t);
            for (int i = 0; i < CHAINS; i++) {
                if (i == own) {
                    continue;
                }
                int most = 0;
                for (int n = 0; n < rivalMany[i]; n++) {
                    int moment = rivals[i * STEPS_EACH + n];
                    if (chosen[i] == ANY || chosen[i] == moment) {
                        most = Math.max(most, work(i, moment, t));
                    }
                }
                sum += most;
            }
            return sum;
        }

        private int work(int i, int k, int t) {
            int sum = 0;
            for (int n = 0; n < rivalMany[i]; n++) {
                int y = i * STEPS_EACH + rivals[i * STEPS_EACH + n];
                sum += comes(y, k, t) * plan.marks[COST][y];
            }
            return sum;
        }

        /** PHI is T at most and t 1 at least, so what is cut here is never below 0. */
        private int comes(int y, int k, int t) {
            int period = periods[y / STEPS_EACH];
            int at = y * STEPS_EACH + k;
            return early[at] + (t - phi[at] + period - 1) / period;
        }

        private int quickNeeded(int x, int turns, int t) {
            int often = turns == AS_IT_COMES ? quickComes(x, t) : turns;
            int sum = often * plan.marks[COST][x];
            for (int i = 0; i < CHAINS; i++) {
                for (int n = 0; n < rivalMany[i]; n++) {
                    int y = i * STEPS_EACH + rivals[i * STEPS_EACH + n];
                    sum += quickComes(y, t) * plan.marks[COST][y];
                }
            }
            return sum;
        }

        private int quickComes(int y, int t) {
            int period = periods[y / STEPS_EACH];
            return (late[y] + t + period - 1) / period;
        }
    }

    /** The latest run. */
    private static final class Course {
        private int ticks;
        private int endedInAll;
        private final int[] idle = new int[NODES];
        /** By node and tick the number of the step that was done, or NONE. */
        private final int[][] did = new int[NODES][MOST_TICKS];
        private final int[] longest = new int[STEPS];
        private final int[] shortest = new int[STEPS];
        private final int[] ended = new int[STEPS];
        /** What is done of the earliest release of a step that has not ended. */
        private final int[] worked = new int[STEPS];
        /** By step and release when it ended. */
        private final int[][] ends = new int[STEPS][MOST_RELEASES];
        /** When step 0 of a chain is ready, of the earliest release of which it has not ended. */
        private final int[] readyAt = new int[CHAINS];

        Course() {
            clear();
        }

        private void clear() {
            ticks = 0;
            endedInAll = 0;
            Arrays.fill(idle, 0);
            for (int node = 0; node < NODES; node++) {
                Arrays.fill(did[node], NONE);
            }
            Arrays.fill(longest, NONE);
            Arrays.fill(shortest, NONE);
            Arrays.fill(ended, 0);
            Arrays.fill(worked, 0);
        }

        int seenOf(int x, int what) {
            return what == 0 ? longest[x] : what == 1 ? shortest[x] : ended[x];
        }

        void go(Plan plan, int h) {
            clear();
            ticks = h;
            for (int i = 0; i < CHAINS; i++) {
                readyAt[i] = firstReady(plan, i, 0);
            }
            for (int t = 0; t < h; t++) {
                for (int node = 0; node < NODES; node++) {
                    int x = mostUrgent(plan, node, t);
                    did[node][t] = x;
                    if (x == NONE) {
                        idle[node]++;
                    } else {
                        doTick(plan, x, t);
                    }
                }
            }
        }

        private static int firstReady(Plan plan, int i, int n) {
            int jitters = Math.max(1, plan.traits[JITTER][i] + 1);
            return released(plan, i, n) + plan.marks[LAG][i * STEPS_EACH] + n * plan.traits[STRIDE][i] % jitters;
        }

        private static int released(Plan plan, int i, int n) {
            return plan.traits[PHASE][i] + n * plan.traits[PERIOD][i];
        }

        private int mostUrgent(Plan plan, int node, int t) {
            int most = NONE;
            for (int x = 0; x < STEPS; x++) {
                if (plan.isStep(x) && plan.marks[NODE][x] == node && isReady(plan, x, t)
                        && (most == NONE || plan.marks[PRIORITY][x] > plan.marks[PRIORITY][most])) {
                    most = x;
                }
            }
            return most;
        }

        /** Releases of a step get ready in their order, so only the earliest that has not ended is looked at. */
        private boolean isReady(Plan plan, int x, int t) {
            int n = ended[x];
            if (n >= MOST_RELEASES) {
                return false;
            }
            if (x % STEPS_EACH == 0) {
                return readyAt[x / STEPS_EACH] <= t;
            }
            return n < ended[x - 1] && ends[x - 1][n] + plan.marks[LAG][x] <= t;
        }

        private void doTick(Plan plan, int x, int t) {
            worked[x]++;
            if (worked[x] < plan.marks[COST][x]) {
                return;
            }
            int i = x / STEPS_EACH;
            int n = ended[x];
            int answer = t + 1 - released(plan, i, n);
            ends[x][n] = t + 1;
            worked[x] = 0;
            ended[x]++;
            endedInAll++;
            longest[x] = Math.max(longest[x], answer);
            shortest[x] = shortest[x] == NONE ? answer : Math.min(shortest[x], answer);
            if (x % STEPS_EACH == 0) {
                readyAt[i] = Math.max(readyAt[i], firstReady(plan, i, n + 1));
            }
        }
    }

    /** A row of shorts, ints or longs, or nothing, if it is lost. */
    private static final class Sheet {
        private boolean lost = true;
        private int form;
        private int size;
        private final long[] items = new long[MOST_ITEMS];

        void begin(int newForm, int n) {
            lost = false;
            form = newForm;
            size = n;
            Arrays.fill(items, 0L);
        }

        /** The FINDING at item i, treated as of a form; 0: none. */
        int troubleAt(int asForm, int i) {
            if (lost) {
                return NULL_FINDING;
            }
            if (form != asForm) {
                return CAST_FINDING;
            }
            return within(i, 0, size - 1) ? 0 : INDEX_FINDING;
        }

        boolean hasRange(int i, int n) {
            return i >= 0 && n >= 0 && i <= size && n <= size - i;
        }

        void put(int i, long v) {
            items[i] = form == SHORTS ? (short) v : v;
        }
    }
}
