/** Promises 28 to 36: sheet, mark, pour, reads, copy, lay, ask, item, rest. */
public final class SheetsTest {
    private static final int BAD = TideIsland.BAD, NO = TideIsland.NO, NONE = TideIsland.NONE, NOTHING = TideIsland.NOTHING;
    private static final int KIND = TideIsland.KIND, INDEX = TideIsland.INDEX, SIZE = TideIsland.SIZE;

    public static void main(String[] args) {
        sheet();
        mark();
        pour();
        reads();
        copy();
        lay();
        ask();
        item();
        rest();
        Due.end();
    }

    private static void sheet() {
        TideIsland x = new TideIsland();
        Due.due("sheet", x.sheet(0, 0, 24), 24);
        Due.due("sheet", x.sheet(3, 1, 0), 0);
        Due.due("sheet 4", x.sheet(4, 0, 1), BAD);
        Due.due("sheet -1", x.sheet(-1, 0, 1), BAD);
        Due.due("sort 2", x.sheet(0, 2, 1), BAD);
        Due.due("sort -2", x.sheet(0, -2, 1), BAD);
        Due.due("25 places", x.sheet(0, 0, 25), BAD);
        Due.due("-1 places", x.sheet(0, 1, -1), SIZE);
        Due.due("-1 places of a bad sort", x.sheet(0, 2, -1), BAD);
        Due.due("-1 places of no sheet", x.sheet(4, 0, -1), BAD);
        x.mark(0, 5, 77);
        x.lay(0, 2, 0);
        Due.due("it is as it was", x.item(0, 5), 77);
        Due.due("anew", x.sheet(0, 0, 6), 6);
        x.lay(0, 2, 0);
        Due.due("all 0", x.item(0, 5), 0);
        Due.due("fewer places", x.item(0, 6), INDEX);
        Due.due("missing", x.sheet(0, -1, 500), 0);
        Due.due("missing", x.sheet(0, -1, -500), 0);
        Due.due("it is missing", x.mark(0, 0, 0), NOTHING);
        Due.due("no place", x.mark(3, 0, 0), INDEX);
    }

    private static int marked(TideIsland x, int sheet, int place, int v) {
        Due.due("mark", x.mark(sheet, place, v), 1);
        x.lay(4, 2, sheet);
        return x.item(4, place);
    }

    private static void mark() {
        TideIsland x = new TideIsland();
        x.sheet(1, 0, 3);
        x.sheet(2, 1, 3);
        Due.due("short", marked(x, 1, 0, 32767), 32767);
        Due.due("short", marked(x, 1, 0, 32768), -32768);
        Due.due("short", marked(x, 1, 2, 65536 + 9), 9);
        Due.due("short", marked(x, 1, 2, -1), -1);
        Due.due("float", marked(x, 2, 0, 99999), 99999);
        Due.due("float", marked(x, 2, 0, -99999), -99999);
        Due.due("no number", marked(x, 2, 0, NONE), KIND);
        Due.due("float 100000", x.mark(2, 1, 100000), BAD);
        Due.due("float -100000", x.mark(2, 1, -100000), BAD);
        Due.due("no number in shorts", x.mark(1, 0, NONE), KIND);
        Due.due("no such place stands first", x.mark(1, 3, NONE), INDEX);
        Due.due("no such place stands first", x.mark(2, 3, 100000), INDEX);
        Due.due("place -1", x.mark(1, -1, 0), INDEX);
        Due.due("missing stands first", x.mark(0, -1, 0), NOTHING);
        Due.due("sheet 4", x.mark(4, 0, 0), BAD);
        Due.due("sheet -1", x.mark(-1, 0, 0), BAD);
    }

    private static void pour() {
        TideIsland x = new TideIsland();
        x.sheet(0, 1, 24);
        int[] v = {100, -3, NONE, 50, 99, 0, 66};
        for (int i = 0; i < v.length; i++) {
            x.mark(0, i, v[i]);
            x.set((24 + i) % 30, 0, 50);
        }
        Due.due("pour", x.pour(0, 4), 4);
        int[] due = {99, 0, 50, 50, 99, 0, 50};
        for (int i = 0; i < due.length; i++) {
            Due.due("corn " + i, x.told((24 + i) % 30, 5), due[i]);
        }
        Due.due("again", x.pour(0, 4), 0);
        x.sheet(1, 0, 2);
        x.mark(1, 0, 7);
        Due.due("a short one", x.pour(1, 4), 1);
        Due.due("corn", x.told(24, 5), 7);
        Due.due("corn beyond it", x.told(28, 5), 99);
        Due.due("row 1", x.pour(1, 1), 1);
        Due.due("corn", x.told(6, 5), 7);
        x.sheet(2, 0, 0);
        Due.due("an empty one", x.pour(2, 0), 0);
        Due.due("row 5", x.pour(0, 5), BAD);
        Due.due("row -1", x.pour(0, -1), BAD);
        Due.due("sheet 4", x.pour(4, 0), BAD);
        Due.due("sheet -1", x.pour(-1, 0), BAD);
        Due.due("missing", x.pour(3, 0), NOTHING);
        Due.due("bad stands first", x.pour(3, 5), BAD);
    }

    private static void reads() {
        TideIsland x = new TideIsland();
        x.sheet(0, 0, 24);
        x.sheet(1, 1, 24);
        for (int i = 0; i < 24; i++) {
            Due.due("reads", x.reads(0), i);
            x.mark(0, i, x.sky(i, 0));
            x.mark(1, i, i % 2 == 0 ? NONE : x.sky(i, 0));
        }
        Due.due("all", x.reads(0), NONE);
        Due.due("numbers alone", x.reads(1), NONE);
        x.mark(1, 23, 0);
        Due.due("the last", x.reads(1), 23);
        x.sheet(2, 0, 0);
        Due.due("an empty one", x.reads(2), NONE);
        Due.due("missing", x.reads(3), NOTHING);
        Due.due("sheet 4", x.reads(4), BAD);
        Due.due("sheet -1", x.reads(-1), BAD);
        x.run(1);
        Due.due("an hour on", x.reads(0), 0);
    }

    private static void fill(TideIsland x, int sheet, int sort, int n) {
        x.sheet(sheet, sort, n);
        for (int i = 0; i < n; i++) {
            x.mark(sheet, i, 10 + i);
        }
    }

    private static void row(TideIsland x, int sheet, int... due) {
        x.lay(4, 2, sheet);
        for (int i = 0; i < due.length; i++) {
            Due.due("place " + i, x.item(4, i), due[i]);
        }
        Due.due("and no more", x.item(4, due.length), INDEX);
    }

    private static void copy() {
        TideIsland x = new TideIsland();
        fill(x, 0, 0, 5);
        Due.due("on", x.copy(0, 0, 0, 1, 4), 4);
        row(x, 0, 10, 10, 11, 12, 13);
        fill(x, 0, 0, 5);
        Due.due("back", x.copy(0, 1, 0, 0, 4), 4);
        row(x, 0, 11, 12, 13, 14, 14);
        x.sheet(1, 0, 3);
        Due.due("to another", x.copy(0, 3, 1, 1, 2), 2);
        row(x, 1, 0, 14, 14);
        Due.due("none", x.copy(0, 5, 1, 3, 0), 0);
        int[][] index = {{0, -1, 1, 0, 1}, {0, 5, 1, 0, 1}, {0, 4, 1, 0, 2}, {0, 0, 1, -1, 1}, {0, 0, 1, 3, 1}, {0, 0, 1, 2, 2},
            {0, 6, 1, 0, 0}, {0, 0, 1, 4, 0}, {0, 0, 1, 0, -1}, {0, Integer.MAX_VALUE, 1, 0, Integer.MAX_VALUE},
            {0, 0, 1, Integer.MAX_VALUE, 1}, {0, Integer.MIN_VALUE, 1, 0, 1}, {0, 0, 1, 0, Integer.MIN_VALUE}};
        for (int[] c : index) {
            Due.due("index", x.copy(c[0], c[1], c[2], c[3], c[4]), INDEX);
        }
        row(x, 1, 0, 14, 14);
        x.sheet(2, 1, 3);
        x.mark(2, 0, NONE);
        Due.due("other sorts", x.copy(0, 0, 2, 0, 1), KIND);
        Due.due("other sorts stand ahead of places", x.copy(2, -1, 1, 9, 0), KIND);
        Due.due("no number comes too", x.copy(2, 0, 2, 2, 1), 1);
        row(x, 2, KIND, 0, KIND);
        Due.due("missing", x.copy(3, 0, 0, 0, 1), NOTHING);
        Due.due("missing", x.copy(0, 0, 3, 0, 1), NOTHING);
        Due.due("missing stands ahead of places", x.copy(0, -1, 3, 0, 1), NOTHING);
        Due.due("bad", x.copy(4, 0, 3, 0, 1), BAD);
        Due.due("bad", x.copy(3, 0, -1, 0, 1), BAD);
        Due.due("bad", x.copy(-1, 0, 0, 0, 1), BAD);
        Due.due("bad", x.copy(0, 0, 4, 0, 1), BAD);
    }

    private static void lay() {
        TideIsland x = new TideIsland();
        x.sheet(1, 0, 2);
        Due.due("nothing yet", x.lay(0, 1, 29), 0);
        Due.due("land", x.lay(0, 2, 1), 1);
        Due.due("a sheet", x.lay(0, 3, Integer.MIN_VALUE), 2);
        Due.due("a number", x.lay(0, 0, 99999), 3);
        Due.due("nothing", x.lay(0, 0, 0), 0);
        x.lay(4, 3, 12);
        Due.due("slot 5", x.lay(5, 0, 0), BAD);
        Due.due("slot -1", x.lay(-1, 0, 0), BAD);
        Due.due("thing 4", x.lay(4, 4, 0), BAD);
        Due.due("thing -1", x.lay(4, -1, 0), BAD);
        Due.due("cell 30", x.lay(4, 1, 30), BAD);
        Due.due("cell -1", x.lay(4, 1, -1), BAD);
        Due.due("sheet 4", x.lay(4, 2, 4), BAD);
        Due.due("sheet -1", x.lay(4, 2, -1), BAD);
        Due.due("missing", x.lay(4, 2, 0), NOTHING);
        Due.due("it holds what it held", x.rest(4, 7), 5);
    }

    private static void ask() {
        TideIsland x = new TideIsland();
        int[] worth = {7, 10, 13, 20, 22, 50};
        int[][] under = {{0}, {0, 1}, {0, 2}, {0, 1, 3}, {0, 2, 4}, {0, 5}};
        for (int kind = 0; kind < 6; kind++) {
            x.land(3, kind, 7);
            x.lay(2, 1, 3);
            x.land(3, 5, 1);
            int[] due = {KIND, KIND, KIND, KIND, KIND, KIND};
            for (int other : under[kind]) {
                due[other] = worth[kind];
            }
            for (int other = 0; other < 6; other++) {
                Due.due("ask " + kind + " " + other, x.ask(2, other), due[other]);
            }
        }
        x.sheet(0, 0, 1);
        x.lay(0, 2, 0);
        x.lay(1, 3, 5);
        Due.due("a sheet", x.ask(0, 0), KIND);
        Due.due("a number", x.ask(1, 0), KIND);
        Due.due("nothing", x.ask(3, 0), NOTHING);
        Due.due("kind 6", x.ask(3, 6), BAD);
        Due.due("kind -1", x.ask(3, -1), BAD);
        Due.due("slot 5", x.ask(5, 0), BAD);
        Due.due("slot -1", x.ask(-1, 0), BAD);
    }

    private static void item() {
        TideIsland x = new TideIsland();
        fill(x, 0, 1, 3);
        x.mark(0, 1, NONE);
        x.lay(0, 2, 0);
        x.mark(0, 0, 55);
        x.sheet(0, -1, 0);
        Due.due("as it was then", x.item(0, 0), 10);
        Due.due("no number", x.item(0, 1), KIND);
        Due.due("item", x.item(0, 2), 12);
        Due.due("place 3", x.item(0, 3), INDEX);
        Due.due("place -1", x.item(0, -1), INDEX);
        x.lay(1, 1, 0);
        x.lay(2, 3, 0);
        Due.due("land", x.item(1, 0), KIND);
        Due.due("a number", x.item(2, -1), KIND);
        Due.due("nothing", x.item(3, -1), NOTHING);
        Due.due("slot 5", x.item(5, 0), BAD);
        Due.due("slot -1", x.item(-1, 0), BAD);
    }

    private static void rest() {
        TideIsland x = new TideIsland();
        x.lay(0, 3, -17);
        Due.due("rest", x.rest(0, 5), -2);
        Due.due("rest", x.rest(0, -5), -2);
        x.lay(0, 3, 17);
        Due.due("rest", x.rest(0, -5), 2);
        x.lay(0, 3, Integer.MIN_VALUE);
        Due.due("rest", x.rest(0, -1), 0);
        Due.due("by 0", x.rest(0, 0), NO);
        x.sheet(0, 0, 1);
        x.lay(1, 2, 0);
        x.lay(2, 1, 0);
        Due.due("a sheet", x.rest(1, 0), KIND);
        Due.due("land", x.rest(2, 0), KIND);
        Due.due("nothing", x.rest(3, 0), NOTHING);
        Due.due("slot 5", x.rest(5, 0), BAD);
        Due.due("slot -1", x.rest(-1, 0), BAD);
    }
}
