/**
 * Promises 21 to 26, and the terms SHEETS and FINDINGS, at their borders: a test of its own for each sentence of the
 * document that names one. The remark ahead of a test says which promise, or which part, and which sentence it holds.
 * What is refused by them stands in BordersOfRefusalsTest.
 */
public final class BordersOfSheetsTest {
    private static final int NONE = OffsetChains.NONE, BAD = OffsetChains.BAD;
    private static final int NULL = -11, INDEX = -12, CAST = -13, STORE = -14, SIZE = -15;
    private static final long LEAST = Long.MIN_VALUE, LONG_INDEX = LEAST + 12;
    private static final int LOW = Integer.MIN_VALUE, HIGH = Integer.MAX_VALUE;

    private static final Due due = new Due("BordersOfSheetsTest");

    public static void main(String[] args) {
        sheetsAre0To3();
        sheetsAreLostAtFirst();
        formsAre0To2();
        sheetsHave0To60Items();
        itemsAre0AtFirst();
        findingNull();
        findingIndex();
        findingCast();
        findingStore();
        findingSize();
        findingsAnswerLongs();
        sheetIsANewRow();
        sheetAnswersN();
        loseAnswersHowManyItems();
        lostIsLost();
        layOfShorts();
        layOfInts();
        layOfLongs();
        layAndGetOfTheFirstAndTheLast();
        layIsTreatedAsOfAForm();
        getOfAnItemThatIsAsARefusal();
        copyOfAllItems();
        copyOfSomeItems();
        copyOfNoItems();
        copyOntoItself();
        copyNotSoMany();
        copyBelow0();
        copyOfEachForm();
        writeAsManyAsThereAreItems();
        writeAsManyAsThereAreSteps();
        writeByNumbers();
        writeAsTheyAre();
        writeNone();
        due.end();
    }

    private static void holds(String what, OffsetChains x, int s, int form, long... items) {
        for (int a = 0; a < items.length; a++) {
            due.is(what + ": get(" + s + ", " + form + ", " + a + ")", x.get(s, form, a), items[a]);
        }
        due.is(what + ": no item behind the last", x.get(s, form, items.length), LONG_INDEX);
    }

    // Terms: "SHEETS 0 .. 3".
    private static void sheetsAre0To3() {
        OffsetChains x = new OffsetChains();
        for (int s = 0; s < 4; s++) {
            due.is("sheet " + s, x.sheet(s, 1, s + 5), s + 5);
            due.is("sheet " + s, x.lay(s, 1, 0, 77 + s), 1);
        }
        for (int s = 0; s < 4; s++) {
            due.is("sheet " + s + " has its own", x.get(s, 1, 0), 77 + s);
            due.is("sheet " + s + " has its own", x.lose(s), s + 5);
        }
        for (int s : Make.outside(0, 3)) {
            due.is("no sheet " + s, x.sheet(s, 1, 5), BAD);
            due.is("no sheet " + s, x.lose(s), BAD);
        }
    }

    // Terms: "are LOST (at first) or a row".
    private static void sheetsAreLostAtFirst() {
        for (int s = 0; s < 4; s++) {
            OffsetChains x = new OffsetChains();
            due.is("lost at first", x.lose(s), NULL);
            due.is("lost at first", x.lay(s, 0, 0, 1), NULL);
            due.is("lost at first", x.get(s, 0, 0), LEAST + 11);
            due.is("lost at first", x.copy(s, 0, s, 0, 0), NULL);
            due.is("lost at first", x.write(s), NULL);
            due.is("lost at first", x.read(0, s), NULL);
            due.is("a row", x.sheet(s, 0, 0), 0);
            due.is("a row", x.copy(s, 0, s, 0, 0), 1);
            due.is("a row", x.write(s), 0);
            due.is("a row", x.read(0, s), 0);
            due.is("a row", x.lose(s), 0);
        }
    }

    // Terms: "a row of a FORM: 0 shorts, 1 ints, 2 longs".
    private static void formsAre0To2() {
        OffsetChains x = new OffsetChains();
        for (int form = 0; form < 3; form++) {
            due.is("form " + form, x.sheet(form, form, 1), 1);
            due.is("form " + form, x.lay(form, form, 0, 65537), 1);
        }
        due.is("shorts", x.get(0, 0, 0), 1);
        due.is("ints", x.get(1, 1, 0), 65537);
        due.is("longs", x.get(2, 2, 0), 65537 * 100000007L);
        for (int form : Make.outside(0, 2)) {
            due.is("no form " + form, x.sheet(0, form, 1), BAD);
            due.is("no form " + form, x.lay(0, form, 0, 1), BAD);
            due.is("no form " + form, x.get(0, form, 0), LEAST + 2);
        }
    }

    // Terms: "of 0 to 60 items", and promise 21: "BAD: .. above 60; SIZE."
    private static void sheetsHave0To60Items() {
        OffsetChains x = new OffsetChains();
        for (int form = 0; form < 3; form++) {
            due.is("0 items", x.sheet(form, form, 0), 0);
            due.is("0 items, no item 0", x.get(form, form, 0), LONG_INDEX);
            due.is("60 items", x.sheet(form, form, 60), 60);
            due.is("60 items, the last", x.lay(form, form, 59, 1), 1);
            due.is("60 items, the one behind", x.lay(form, form, 60, 1), INDEX);
            due.is("61 items", x.sheet(form, form, 61), BAD);
            due.is("as many as can be told", x.sheet(form, form, HIGH), BAD);
            due.is("-1 items", x.sheet(form, form, -1), SIZE);
            due.is("as few as can be told", x.sheet(form, form, LOW), SIZE);
            due.is("60 items still", x.lose(form), 60);
        }
    }

    // Terms: "(0 at first)", of the items: in a new row, also where there was another.
    private static void itemsAre0AtFirst() {
        for (int form = 0; form < 3; form++) {
            OffsetChains x = new OffsetChains();
            x.sheet(1, form, 60);
            for (int a = 0; a < 60; a++) {
                due.is("0 at first", x.get(1, form, a), 0);
                x.lay(1, form, a, -1);
            }
            x.sheet(1, form, 60);
            for (int a = 0; a < 60; a++) {
                due.is("0 again", x.get(1, form, a), 0);
            }
        }
    }

    // Terms: "FINDINGS (answers -10 less the number ..): 1 NULL: the SHEET is LOST".
    private static void findingNull() {
        OffsetChains x = new OffsetChains();
        due.is("lose()", x.lose(0), -10 - 1);
        due.is("count(8)", x.count(8), 1);
    }

    // Terms: "2 INDEX: there is no such item": 1 ahead of the first, 1 behind the last, far off.
    private static void findingIndex() {
        OffsetChains x = new OffsetChains();
        Make.sheet(x, 0, 1, 7, 8, 9);
        for (int item : Make.outside(0, 2)) {
            due.is("lay(.., " + item + ", ..)", x.lay(0, 1, item, 1), -10 - 2);
            due.is("get(.., " + item + ")", x.get(0, 1, item), LEAST + 10 + 2);
        }
        due.is("count(8)", x.count(8), 2);
        holds("nothing has changed", x, 0, 1, 7, 8, 9);
    }

    // Terms: "3 CAST: it has another FORM".
    private static void findingCast() {
        for (int form = 0; form < 3; form++) {
            OffsetChains x = new OffsetChains();
            x.sheet(0, form, 1);
            for (int other = 0; other < 3; other++) {
                due.is(form + " as " + other, x.lay(0, other, 0, 5), other == form ? 1 : -10 - 3);
                due.is(form + " as " + other, x.count(8), form == 0 && other == 0 ? 0 : 3);
            }
        }
    }

    // Terms: "4 STORE: unlike FORMS".
    private static void findingStore() {
        for (int from = 0; from < 3; from++) {
            for (int to = 0; to < 3; to++) {
                OffsetChains x = new OffsetChains();
                x.sheet(1, from, 2);
                x.sheet(2, to, 2);
                due.is(from + " to " + to, x.copy(1, 0, 2, 0, 1), from == to ? 1 : -10 - 4);
                due.is(from + " to " + to, x.count(8), from == to ? 0 : 4);
            }
        }
    }

    // Terms: "5 SIZE: below 0."
    private static void findingSize() {
        OffsetChains x = new OffsetChains();
        due.is("0", x.sheet(0, 0, 0), 0);
        due.is("no finding", x.count(8), 0);
        due.is("-1", x.sheet(0, 0, -1), -10 - 5);
        due.is("count(8)", x.count(8), 5);
    }

    // Refusals: "Where the answer is a long, a refusal -x is the least long and x more."
    private static void findingsAnswerLongs() {
        OffsetChains x = new OffsetChains();
        x.sheet(1, 1, 1);
        due.is("BAD", x.get(4, 1, 0), -9223372036854775808L + 2);
        due.is("NULL", x.get(0, 1, 0), -9223372036854775808L + 11);
        due.is("CAST", x.get(1, 0, 0), -9223372036854775808L + 13);
        due.is("INDEX", x.get(1, 1, 1), -9223372036854775808L + 12);
    }

    // Promise 21: "A SHEET is a new row of a FORM with n items": shorter, longer, of another form, where one was LOST.
    private static void sheetIsANewRow() {
        OffsetChains x = new OffsetChains();
        Make.sheet(x, 2, 1, 1, 2, 3, 4);
        x.sheet(2, 1, 2);
        holds("shorter", x, 2, 1, 0, 0);
        x.sheet(2, 1, 5);
        holds("longer", x, 2, 1, 0, 0, 0, 0, 0);
        Make.sheet(x, 2, 0, -1, -1);
        x.sheet(2, 2, 2);
        holds("of another form", x, 2, 2, 0, 0);
        due.is("it is not of the one before", x.lay(2, 0, 0, 1), CAST);
        x.lay(2, 2, 1, 9);
        x.lose(2);
        x.sheet(2, 2, 2);
        holds("where one was lost", x, 2, 2, 0, 0);
    }

    // Promise 21: "with n items: n."
    private static void sheetAnswersN() {
        OffsetChains x = new OffsetChains();
        for (int n = 0; n <= 60; n++) {
            due.is("sheet of " + n, x.sheet(3, n % 3, n), n);
        }
    }

    // Promise 22: "It is LOST: how many items it had."
    private static void loseAnswersHowManyItems() {
        OffsetChains x = new OffsetChains();
        for (int n : new int[] {0, 1, 59, 60}) {
            x.sheet(1, 2, n);
            due.is("it had " + n, x.lose(1), n);
            due.is("it has none", x.lose(1), NULL);
        }
    }

    // Promise 22: "It is LOST": for each act, and it alone.
    private static void lostIsLost() {
        OffsetChains x = new OffsetChains();
        Make.sheet(x, 0, 1, 0, 1, 0, 0);
        Make.sheet(x, 1, 1, 0, 1, 0, 0);
        x.lose(0);
        due.is("lose()", x.lose(0), NULL);
        due.is("lay()", x.lay(0, 1, 0, 1), NULL);
        due.is("get()", x.get(0, 1, 0), LEAST + 11);
        due.is("copy() from it", x.copy(0, 0, 1, 0, 1), NULL);
        due.is("copy() to it", x.copy(1, 0, 0, 0, 1), NULL);
        due.is("write()", x.write(0), NULL);
        due.is("read()", x.read(0, 0), NULL);
        due.is("read() of the other", x.read(0, 1), 1);
        holds("the other", x, 1, 1, 0, 1, 0, 0);
    }

    // Promise 23: "of shorts its lowest bits, with its sign": around 0, where the sign turns, where it wraps around.
    private static void layOfShorts() {
        OffsetChains x = new OffsetChains();
        x.sheet(0, 0, 1);
        int[][] told = {{0, 0}, {1, 1}, {-1, -1}, {32766, 32766}, {32767, 32767}, {32768, -32768}, {32769, -32767},
            {-32767, -32767}, {-32768, -32768}, {-32769, 32767}, {-32770, 32766}, {65534, -2}, {65535, -1}, {65536, 0},
            {65537, 1}, {-65535, 1}, {-65536, 0}, {-65537, -1}, {HIGH, -1}, {LOW, 0}, {HIGH - 32768, 32767},
            {LOW + 32768, -32768}};
        for (int[] by : told) {
            due.is("lay() of " + by[0], x.lay(0, 0, 0, by[0]), 1);
            due.is("as a short " + by[0], x.get(0, 0, 0), by[1]);
        }
    }

    // Promise 23: "Item i, treated as of a FORM, becomes v": of ints as it is.
    private static void layOfInts() {
        OffsetChains x = new OffsetChains();
        x.sheet(0, 1, 1);
        for (int v : new int[] {0, 1, -1, 32768, -32769, 65536, HIGH, LOW}) {
            due.is("lay() of " + v, x.lay(0, 1, 0, v), 1);
            due.is("as an int " + v, x.get(0, 1, 0), v);
        }
    }

    // Promise 23: "of longs v times 100000007": also above what an int can be.
    private static void layOfLongs() {
        OffsetChains x = new OffsetChains();
        x.sheet(0, 2, 1);
        long[][] told = {{0, 0}, {1, 100000007L}, {-1, -100000007L}, {21, 2100000147L}, {22, 2200000154L},
            {-22, -2200000154L}, {HIGH, 214748379732385529L}, {LOW, -214748379832385536L}};
        for (long[] by : told) {
            due.is("lay() of " + by[0], x.lay(0, 2, 0, (int) by[0]), 1);
            due.is("as a long " + by[0], x.get(0, 2, 0), by[1]);
        }
    }

    // Promises 23, 24: "Item i": the first, the last, and no other.
    private static void layAndGetOfTheFirstAndTheLast() {
        for (int form = 0; form < 2; form++) {
            OffsetChains x = new OffsetChains();
            x.sheet(2, form, 4);
            due.is("the first", x.lay(2, form, 0, 5), 1);
            due.is("the last", x.lay(2, form, 3, 6), 1);
            holds("the first, the last", x, 2, form, 5, 0, 0, 6);
            x.sheet(2, form, 1);
            due.is("the only one", x.lay(2, form, 0, 7), 1);
            holds("the only one", x, 2, form, 7);
        }
    }

    // Promises 23, 24: "treated as of a FORM", "CAST": a sheet of one form is of no other, though the item would fit.
    private static void layIsTreatedAsOfAForm() {
        for (int form = 0; form < 3; form++) {
            for (int as = 0; as < 3; as++) {
                OffsetChains x = new OffsetChains();
                x.sheet(3, form, 1);
                due.is("lay() of " + form + " as " + as, x.lay(3, as, 0, 0), as == form ? 1 : CAST);
                due.is("get() of " + form + " as " + as, x.get(3, as, 0), as == form ? 0 : LEAST + 13);
            }
        }
    }

    // Promise 24: "Item i of it": an item that looks like a refusal of an int is an item.
    private static void getOfAnItemThatIsAsARefusal() {
        OffsetChains x = new OffsetChains();
        Make.sheet(x, 0, 1, -1, -2, -3, -4, -11, -15);
        holds("as they are", x, 0, 1, -1, -2, -3, -4, -11, -15);
        due.is("no finding but that behind the last", x.count(8), 2);
    }

    private static OffsetChains two() {
        OffsetChains x = new OffsetChains();
        Make.sheet(x, 0, 1, 1, 2, 3, 4, 5);
        Make.sheet(x, 3, 1, 11, 12, 13, 14);
        return x;
    }

    // Promise 25: "n items of SHEET s, from i on, come to SHEET t, from j on: 1": as many as there are; all 60.
    private static void copyOfAllItems() {
        OffsetChains x = two();
        due.is("all four", x.copy(3, 0, 0, 0, 4), 1);
        holds("all four", x, 0, 1, 11, 12, 13, 14, 5);
        x = two();
        due.is("as many as there is room for", x.copy(0, 0, 3, 0, 4), 1);
        holds("as many as there is room for", x, 3, 1, 1, 2, 3, 4);
        x.sheet(1, 2, 60);
        x.sheet(2, 2, 60);
        x.lay(1, 2, 0, 3);
        x.lay(1, 2, 59, 4);
        due.is("all 60", x.copy(1, 0, 2, 0, 60), 1);
        due.is("the first of 60", x.get(2, 2, 0), 300000021L);
        due.is("the last of 60", x.get(2, 2, 59), 400000028L);
    }

    // Promise 25: "from i on", "from j on": up to the last item of each.
    private static void copyOfSomeItems() {
        OffsetChains x = two();
        due.is("the last to the first", x.copy(0, 4, 3, 0, 1), 1);
        holds("the last to the first", x, 3, 1, 5, 12, 13, 14);
        due.is("the first to the last", x.copy(0, 0, 3, 3, 1), 1);
        holds("the first to the last", x, 3, 1, 5, 12, 13, 1);
        due.is("the last two to the last two", x.copy(0, 3, 3, 2, 2), 1);
        holds("the last two to the last two", x, 3, 1, 5, 12, 4, 5);
        holds("they are still where they were", x, 0, 1, 1, 2, 3, 4, 5);
    }

    // Promise 25: "(with n 0, too, if i or j is above how many there are)": just as many is good, 1 more is not.
    private static void copyOfNoItems() {
        OffsetChains x = two();
        due.is("from the first", x.copy(0, 0, 3, 0, 0), 1);
        due.is("behind the last of both", x.copy(0, 5, 3, 4, 0), 1);
        due.is("i is above how many there are", x.copy(0, 6, 3, 0, 0), INDEX);
        due.is("j is above how many there are", x.copy(0, 0, 3, 5, 0), INDEX);
        due.is("both are", x.copy(0, 6, 3, 5, 0), INDEX);
        due.is("i is far above", x.copy(0, HIGH, 3, 0, 0), INDEX);
        due.is("j is far above", x.copy(0, 0, 3, HIGH, 0), INDEX);
        x.sheet(1, 1, 0);
        due.is("of a sheet without items", x.copy(1, 0, 3, 0, 0), 1);
        due.is("to a sheet without items", x.copy(0, 0, 1, 0, 0), 1);
        due.is("to a sheet without items, 1", x.copy(0, 0, 1, 0, 1), INDEX);
        due.is("to a sheet without items, behind", x.copy(0, 0, 1, 1, 0), INDEX);
        holds("nothing has changed", x, 0, 1, 1, 2, 3, 4, 5);
        holds("nothing has changed", x, 3, 1, 11, 12, 13, 14);
    }

    // Promise 25: "to SHEET t (perhaps s, as they were)": over one another, up and down, all of it, none of it.
    private static void copyOntoItself() {
        OffsetChains x = two();
        due.is("one up", x.copy(0, 0, 0, 1, 4), 1);
        holds("one up", x, 0, 1, 1, 1, 2, 3, 4);
        x = two();
        due.is("one down", x.copy(0, 1, 0, 0, 4), 1);
        holds("one down", x, 0, 1, 2, 3, 4, 5, 5);
        x = two();
        due.is("all of it", x.copy(0, 0, 0, 0, 5), 1);
        holds("all of it", x, 0, 1, 1, 2, 3, 4, 5);
        due.is("none of it", x.copy(0, 5, 0, 5, 0), 1);
        due.is("one too many", x.copy(0, 0, 0, 1, 5), INDEX);
        holds("nothing has changed", x, 0, 1, 1, 2, 3, 4, 5);
    }

    // Promise 25: "INDEX: .. not so many": of s, of t, of both, also where i and n together wrap around.
    private static void copyNotSoMany() {
        OffsetChains x = two();
        int[][] told = {{5, 0, 1}, {0, 4, 1}, {4, 0, 2}, {0, 3, 2}, {0, 0, 5}, {0, 0, 6}, {1, 1, 4}, {0, 0, HIGH},
            {1, 0, HIGH}, {0, 1, HIGH}, {HIGH, 0, 1}, {0, HIGH, 1}, {HIGH, HIGH, HIGH}, {5, 4, HIGH}};
        for (int[] at : told) {
            due.is("copy(0, " + at[0] + ", 3, " + at[1] + ", " + at[2] + ")", x.copy(0, at[0], 3, at[1], at[2]), INDEX);
        }
        due.is("just so many", x.copy(3, 0, 0, 1, 4), 1);
        due.is("not so many of s", x.copy(3, 0, 0, 0, 5), INDEX);
        holds("it was not begun", x, 0, 1, 1, 11, 12, 13, 14);
        holds("it was not begun", x, 3, 1, 11, 12, 13, 14);
    }

    // Promise 25: "INDEX: below 0": i, j, n.
    private static void copyBelow0() {
        OffsetChains x = two();
        int[][] told = {{-1, 0, 1}, {0, -1, 1}, {0, 0, -1}, {-1, 0, 0}, {0, -1, 0}, {1, 1, -1}, {-1, -1, 2}, {5, 4, -1},
            {LOW, 0, 1}, {0, LOW, 1}, {0, 0, LOW}, {LOW, LOW, LOW}, {LOW, 0, HIGH}};
        for (int[] at : told) {
            due.is("copy(0, " + at[0] + ", 3, " + at[1] + ", " + at[2] + ")", x.copy(0, at[0], 3, at[1], at[2]), INDEX);
        }
        holds("nothing has changed", x, 0, 1, 1, 2, 3, 4, 5);
        holds("nothing has changed", x, 3, 1, 11, 12, 13, 14);
    }

    // Promise 25: "STORE": of like forms each can be copied, and comes as it is.
    private static void copyOfEachForm() {
        long[] are = {-32768, 32768, 32768 * 100000007L};
        for (int form = 0; form < 3; form++) {
            OffsetChains x = new OffsetChains();
            Make.sheet(x, 1, form, 0, 32768);
            x.sheet(2, form, 2);
            due.is("form " + form, x.copy(1, 1, 2, 0, 1), 1);
            holds("form " + form, x, 2, form, are[form], 0);
            x.sheet(2, (form + 1) % 3, 2);
            due.is("form " + form + " to another", x.copy(1, 1, 2, 0, 1), STORE);
            due.is("form " + form + " to another, of none", x.copy(1, 1, 2, 0, 0), STORE);
        }
    }

    // Promise 26: "as many as there are items, and STEPS: how many": fewer items, as many, more.
    private static void writeAsManyAsThereAreItems() {
        int[] three = {100, 0, 0, 2, 5, 0, 1, 3, 5, 0, 0, 4, 5, 0};
        OffsetChains x = Make.with(three);
        long[] bounds = {2, 5, 9};
        for (int n = 0; n <= 4; n++) {
            x.sheet(0, 1, n);
            due.is("of " + n + " items", x.write(0), Math.min(n, 3));
            for (int a = 0; a < n; a++) {
                due.is("of " + n + " items, item " + a, x.get(0, 1, a), a < 3 ? bounds[a] : 0);
            }
        }
    }

    // Promise 26: "as many as there are items, and STEPS": no STEPS, one, nine; the items behind stay.
    private static void writeAsManyAsThereAreSteps() {
        OffsetChains x = new OffsetChains();
        Make.sheet(x, 1, 1, -7, -7, -7, -7, -7, -7, -7, -7, -7, -7);
        due.is("no STEPS", x.write(1), 0);
        due.is("no STEPS, the first stays", x.get(1, 1, 0), -7);
        x.chain(2, 0, 100);
        x.step(2, 0, 6, 5, 0);
        due.is("one", x.write(1), 1);
        holds("one", x, 1, 1, 6, -7, -7, -7, -7, -7, -7, -7, -7, -7);
        int[] three = {100, 0, 0, 1, 5, 0, 0, 1, 5, 20, 0, 1, 5, 20};
        x = Make.with(three, three, three);
        Make.sheet(x, 1, 1, -7, -7, -7, -7, -7, -7, -7, -7, -7, -7);
        due.is("nine", x.write(1), 9);
        due.is("nine, the last of them", x.get(1, 1, 8), x.bound(2, 2));
        due.is("nine, the one behind stays", x.get(1, 1, 9), -7);
    }

    // Promise 26: "BOUNDS (NONE) of STEPS, by numbers, come to a SHEET from item 0 on": without gaps.
    private static void writeByNumbers() {
        OffsetChains x = Make.with(new int[] {100, 0}, new int[] {100, 0, 0, 3, 5, 0, 1, 4, 5, 0},
                new int[] {100, 0, 1, 9, 9, 0});
        x.sheet(0, 1, 5);
        due.is("of chains 1 and 2", x.write(0), 3);
        holds("of chains 1 and 2", x, 0, 1, 3, 16, 9, 0, 0);
    }

    // Promise 26: "(as they are, of shorts, ints, longs)".
    private static void writeAsTheyAre() {
        for (int form = 0; form < 3; form++) {
            OffsetChains x = Make.with(new int[] {100, 0, 0, 20, 9, 20, 0, 20, 8, 20, 0, 20, 7, 20});
            x.sheet(2, form, 3);
            due.is("form " + form, x.write(2), 3);
            holds("form " + form, x, 2, form, 40, 80, 120);
        }
    }

    // Promise 26: "BOUNDS (NONE)".
    private static void writeNone() {
        for (int form = 0; form < 3; form++) {
            OffsetChains x = Make.with(new int[] {20, 0, 0, 10, 5, 0}, new int[] {20, 0, 0, 11, 5, 0});
            Make.sheet(x, 2, form, 5, 5, 0);
            due.is("form " + form, x.write(2), 2);
            holds("form " + form, x, 2, form, NONE, NONE, 0);
        }
    }
}
