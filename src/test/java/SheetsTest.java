/** Promises 21 to 27: sheets, findings, write, count. */
public final class SheetsTest {
    private static final Due due = new Due("SheetsTest");
    private static final int LOW = Integer.MIN_VALUE, HIGH = Integer.MAX_VALUE;
    private static final long LONG_BAD = Long.MIN_VALUE + 2, LONG_NULL = Long.MIN_VALUE + 11,
            LONG_INDEX = Long.MIN_VALUE + 12, LONG_CAST = Long.MIN_VALUE + 13;
    private static final int NULL = -11, INDEX = -12, CAST = -13, STORE = -14, SIZE = -15;

    public static void main(String[] args) {
        sheet();
        lose();
        lay();
        get();
        copy();
        copyOntoItself();
        copyRefusals();
        write();
        count();
        findings();
        due.end();
    }

    private static void sheet() {
        OffsetChains x = new OffsetChains();
        due.is("21 sheet", x.sheet(-1, 0, 0), OffsetChains.BAD);
        due.is("21 sheet", x.sheet(4, 0, 0), OffsetChains.BAD);
        due.is("21 sheet", x.sheet(HIGH, 0, 0), OffsetChains.BAD);
        due.is("21 form", x.sheet(0, -1, 0), OffsetChains.BAD);
        due.is("21 form", x.sheet(0, 3, 0), OffsetChains.BAD);
        due.is("21 above", x.sheet(0, 0, 61), OffsetChains.BAD);
        due.is("21 far above", x.sheet(0, 0, HIGH), OffsetChains.BAD);
        due.is("21 no finding", x.count(8), 0);
        due.is("21 below", x.sheet(0, 0, -1), SIZE);
        due.is("21 finding", x.count(8), 5);
        due.is("21 far below", x.sheet(0, 0, LOW), SIZE);
        due.is("21 form ahead of size", x.sheet(0, 3, -1), OffsetChains.BAD);
        due.is("21 sheet ahead of size", x.sheet(4, 0, -1), OffsetChains.BAD);
        due.is("21 still lost", x.lose(0), NULL);
        for (int s = 0; s < 4; s++) {
            due.is("21 none", x.sheet(s, s % 3, 0), 0);
            due.is("21 no item", x.get(s, s % 3, 0), LONG_INDEX);
            due.is("21 most", x.sheet(s, s % 3, 60), 60);
            due.is("21 zeros", x.get(s, s % 3, 59), 0);
        }
        x.lay(1, 1, 7, 5);
        due.is("21 a refusal leaves it", x.sheet(1, 1, -1), SIZE);
        due.is("21 a refusal leaves it", x.sheet(1, 1, 61), OffsetChains.BAD);
        due.is("21 a refusal leaves it", x.get(1, 1, 7), 5);
        due.is("21 a new row", x.sheet(1, 1, 9), 9);
        due.is("21 of zeros", x.get(1, 1, 7), 0);
        due.is("21 so long", x.get(1, 1, 9), LONG_INDEX);
        due.is("21 of another form", x.sheet(1, 2, 8), 8);
        due.is("21 of another form", x.get(1, 1, 0), LONG_CAST);
    }

    private static void lose() {
        OffsetChains x = new OffsetChains();
        due.is("22 sheet", x.lose(-1), OffsetChains.BAD);
        due.is("22 sheet", x.lose(4), OffsetChains.BAD);
        due.is("22 no finding", x.count(8), 0);
        due.is("22 lost", x.lose(3), NULL);
        due.is("22 finding", x.count(8), 1);
        x.sheet(3, 1, 17);
        x.sheet(2, 1, 0);
        due.is("22 17 items", x.lose(3), 17);
        due.is("22 no items", x.lose(2), 0);
        due.is("22 lost now", x.lose(3), NULL);
        due.is("22 lost now", x.get(3, 1, 0), LONG_NULL);
        x.sheet(3, 1, 17);
        due.is("22 there again", x.lose(3), 17);
    }

    private static void lay() {
        OffsetChains x = new OffsetChains();
        for (int form = 0; form < 3; form++) {
            x.sheet(form, form, 6);
        }
        int[] items = {0, 1, -1, 32767, 32768, -32769, 65536, LOW, HIGH, 123456789};
        long[] shorts = {0, 1, -1, 32767, -32768, 32767, 0, 0, -1, -13035};
        for (int a = 0; a < items.length; a++) {
            due.is("23 short", x.lay(0, 0, a % 6, items[a]), 1);
            due.is("24 short " + items[a], x.get(0, 0, a % 6), shorts[a]);
            due.is("23 int", x.lay(1, 1, a % 6, items[a]), 1);
            due.is("24 int " + items[a], x.get(1, 1, a % 6), items[a]);
            due.is("23 long", x.lay(2, 2, a % 6, items[a]), 1);
            due.is("24 long " + items[a], x.get(2, 2, a % 6), items[a] * 100000007L);
        }
        due.is("23 the others stay", x.get(1, 1, 4), 32768);
        due.is("23 no finding", x.count(8), 0);
        due.is("23 sheet", x.lay(-1, 1, 0, 9), OffsetChains.BAD);
        due.is("23 sheet", x.lay(4, 1, 0, 9), OffsetChains.BAD);
        due.is("23 form", x.lay(1, -1, 0, 9), OffsetChains.BAD);
        due.is("23 form", x.lay(1, 3, 0, 9), OffsetChains.BAD);
        due.is("23 form ahead of lost", x.lay(3, 3, 0, 9), OffsetChains.BAD);
        due.is("23 no finding", x.count(8), 0);
        due.is("23 lost", x.lay(3, 1, 0, 9), NULL);
        due.is("23 lost ahead of item", x.lay(3, 1, -1, 9), NULL);
        due.is("23 finding", x.count(8), 1);
        due.is("23 other form", x.lay(1, 0, 0, 9), CAST);
        due.is("23 other form", x.lay(1, 2, 0, 9), CAST);
        due.is("23 other form ahead of item", x.lay(1, 0, 6, 9), CAST);
        due.is("23 finding", x.count(8), 3);
        due.is("23 item", x.lay(1, 1, 6, 9), INDEX);
        due.is("23 item", x.lay(1, 1, -1, 9), INDEX);
        due.is("23 item", x.lay(1, 1, LOW, 9), INDEX);
        due.is("23 item", x.lay(1, 1, HIGH, 9), INDEX);
        due.is("23 finding", x.count(8), 2);
    }

    private static void get() {
        OffsetChains x = new OffsetChains();
        x.sheet(1, 1, 3);
        due.is("24 sheet", x.get(-1, 1, 0), LONG_BAD);
        due.is("24 sheet", x.get(4, 1, 0), LONG_BAD);
        due.is("24 form", x.get(1, -1, 0), LONG_BAD);
        due.is("24 form", x.get(1, 3, 0), LONG_BAD);
        due.is("24 form ahead of lost", x.get(0, 3, 0), LONG_BAD);
        due.is("24 no finding", x.count(8), 0);
        due.is("24 item", x.get(1, 1, 3), LONG_INDEX);
        due.is("24 finding", x.count(8), 2);
        due.is("24 item", x.get(1, 1, -1), LONG_INDEX);
        due.is("24 other form ahead of item", x.get(1, 2, -1), LONG_CAST);
        due.is("24 finding", x.count(8), 3);
        due.is("24 lost ahead of form and item", x.get(0, 2, -1), LONG_NULL);
        due.is("24 finding", x.count(8), 1);
        due.is("24 the last", x.get(1, 1, 2), 0);
    }

    private static OffsetChains counted(int s, int form, int n) {
        OffsetChains x = new OffsetChains();
        x.sheet(s, form, n);
        for (int a = 0; a < n; a++) {
            x.lay(s, form, a, a + 1);
        }
        return x;
    }

    private static void holds(String what, OffsetChains x, int s, int form, int... items) {
        for (int a = 0; a < items.length; a++) {
            due.is(what + ", item " + a, x.get(s, form, a), form == 2 ? items[a] * 100000007L : items[a]);
        }
        due.is(what + ", no more", x.get(s, form, items.length), LONG_INDEX);
    }

    private static void copy() {
        for (int form = 0; form < 3; form++) {
            OffsetChains x = counted(0, form, 5);
            x.sheet(2, form, 4);
            due.is("25 two", x.copy(0, 3, 2, 1, 2), 1);
            holds("25 two", x, 2, form, 0, 4, 5, 0);
            due.is("25 four", x.copy(0, 0, 2, 0, 4), 1);
            holds("25 four", x, 2, form, 1, 2, 3, 4);
            due.is("25 none, behind the last", x.copy(0, 5, 2, 4, 0), 1);
            due.is("25 none", x.copy(0, 0, 2, 0, 0), 1);
            holds("25 none", x, 2, form, 1, 2, 3, 4);
            holds("25 from it nothing is gone", x, 0, form, 1, 2, 3, 4, 5);
        }
    }

    private static void copyOntoItself() {
        OffsetChains x = counted(3, 1, 6);
        due.is("25 up", x.copy(3, 0, 3, 1, 5), 1);
        holds("25 up, as they were", x, 3, 1, 1, 1, 2, 3, 4, 5);
        x = counted(3, 1, 6);
        due.is("25 down", x.copy(3, 2, 3, 0, 4), 1);
        holds("25 down, as they were", x, 3, 1, 3, 4, 5, 6, 5, 6);
    }

    private static void copyRefusals() {
        OffsetChains x = counted(0, 1, 5);
        x.sheet(1, 1, 4);
        x.sheet(2, 0, 4);
        due.is("25 sheet", x.copy(-1, 0, 1, 0, 1), OffsetChains.BAD);
        due.is("25 sheet", x.copy(4, 0, 1, 0, 1), OffsetChains.BAD);
        due.is("25 sheet", x.copy(0, 0, -1, 0, 1), OffsetChains.BAD);
        due.is("25 sheet", x.copy(3, 0, 4, 0, 1), OffsetChains.BAD);
        due.is("25 no finding", x.count(8), 0);
        due.is("25 lost", x.copy(3, 0, 0, 0, 1), NULL);
        due.is("25 lost", x.copy(0, -1, 3, 0, 1), NULL);
        due.is("25 lost both", x.copy(3, 0, 3, 0, 0), NULL);
        due.is("25 finding", x.count(8), 1);
        due.is("25 unlike", x.copy(0, 0, 2, 0, 1), STORE);
        due.is("25 unlike ahead of item", x.copy(2, -1, 0, 0, 1), STORE);
        due.is("25 unlike, of none", x.copy(2, 0, 0, 0, 0), STORE);
        due.is("25 finding", x.count(8), 4);
        int[][] items = {{-1, 0, 1}, {0, -1, 1}, {0, 0, -1}, {5, 0, 1}, {0, 4, 1}, {4, 0, 2}, {0, 3, 2}, {0, 0, 5},
            {6, 0, 0}, {0, 5, 0}, {-1, 0, 0}, {0, -1, 0}, {LOW, 0, 1}, {0, LOW, 1}, {0, 0, LOW}, {HIGH, 0, 1},
            {0, HIGH, 1}, {0, 0, HIGH}, {1, 1, HIGH}, {HIGH, HIGH, HIGH}, {HIGH, 0, 0}};
        for (int[] at : items) {
            due.is("25 items " + at[0] + ", " + at[1] + ", " + at[2], x.copy(0, at[0], 1, at[1], at[2]), INDEX);
        }
        due.is("25 finding", x.count(8), 2);
        holds("25 nothing changed", x, 0, 1, 1, 2, 3, 4, 5);
        holds("25 nothing changed", x, 1, 1, 0, 0, 0, 0);
    }

    private static void write() {
        OffsetChains x = new OffsetChains();
        due.is("26 sheet", x.write(-1), OffsetChains.BAD);
        due.is("26 sheet", x.write(4), OffsetChains.BAD);
        due.is("26 no finding", x.count(8), 0);
        due.is("26 lost", x.write(0), NULL);
        due.is("26 finding", x.count(8), 1);
        for (int form = 0; form < 3; form++) {
            x.sheet(form, form, 5);
            for (int a = 0; a < 5; a++) {
                x.lay(form, form, a, 0);
            }
            due.is("26 no steps", x.write(form), 0);
        }
        x.chain(0, 0, 100);
        x.chain(2, 0, 100);
        x.step(2, 1, 4, 1, 0);
        x.step(0, 0, 7, 1, 2);
        x.step(2, 1, 3, 2, 0);
        long[] bounds = {9, 4, 7};
        for (int form = 0; form < 3; form++) {
            due.is("26 three", x.write(form), 3);
            for (int a = 0; a < 3; a++) {
                due.is("26 as they are, by numbers", x.get(form, form, a), bounds[a]);
            }
            due.is("26 the rest stays", x.get(form, form, 3), 0);
        }
        x.sheet(3, 1, 2);
        due.is("26 as many as there are items", x.write(3), 2);
        holds("26 as many as there are items", x, 3, 1, 9, 4);
        x.sheet(3, 1, 0);
        due.is("26 no items", x.write(3), 0);
        x.chain(1, 0, 5);
        x.step(1, 0, 6, 0, 0);
        x.sheet(3, 0, 6);
        due.is("26 no bounds", x.write(3), 4);
        holds("26 no bounds", x, 3, 0, -1, -1, -1, -1, 0, 0);
    }

    private static void count() {
        OffsetChains x = new OffsetChains();
        due.is("27 what", x.count(-1), OffsetChains.BAD);
        due.is("27 what", x.count(9), OffsetChains.BAD);
        due.is("27 what", x.count(LOW), OffsetChains.BAD);
        x.step(0, 0, 2, 5, 0);
        x.step(0, 1, 3, 5, 0);
        x.step(2, 1, 4, 4, 0);
        due.is("27 steps", x.count(0), 3);
        due.is("27 settled", x.count(1), 1);
        x.chain(0, 2, 200);
        x.chain(1, 2, 200);
        x.chain(2, 2, 200);
        due.is("27 they meet", x.count(2), 2);
        due.is("27 they meet", x.meets(), 5);
        x.run(30);
        due.is("27 ended", x.count(3), 6);
        due.is("27 idle", x.count(4), 26);
        due.is("27 idle", x.count(5), 16);
        due.is("27 ticks", x.count(6), 30);
        due.is("27 above 1", x.count(7), 0);
        x.chain(2, 0, 5);
        due.is("27 just below 1", x.count(7), 0);
        x.tune(2, 0, 1, 5);
        due.is("27 above 1", x.count(7), 1);
        x.tune(2, 0, 2, 5);
        due.is("27 both above 1", x.count(7), 2);
        due.is("27 not settled", x.count(1), 0);
        due.is("27 none meets", x.count(2), 0);
        due.is("27 of the run as before", x.count(3), 6);
    }

    private static void findings() {
        OffsetChains x = new OffsetChains();
        x.sheet(0, 1, 2);
        x.sheet(1, 0, 2);
        x.get(0, 0, 0);
        due.is("27 cast", x.count(8), 3);
        x.get(0, 1, 1);
        x.chain(9, 9, 9);
        x.back(0);
        due.is("27 only a finding changes it", x.count(8), 3);
        long digest = x.digest();
        x.copy(0, 0, 1, 0, 1);
        due.is("27 store", x.count(8), 4);
        x.sheet(0, 1, -7);
        due.is("27 size", x.count(8), 5);
        x.lay(0, 1, 2, 0);
        due.is("27 index", x.count(8), 2);
        x.read(0, 3);
        due.is("27 null", x.count(8), 1);
        due.is("27 nothing else has changed", x.digest(), digest);
    }
}
