/** Sentence by sentence: promises 28 to 36, sheet, mark, pour, reads, copy, lay, ask, item, rest. */
public final class Promises28To36Test {
    private static final int BAD = TideIsland.BAD, NO = TideIsland.NO, NONE = TideIsland.NONE, NOTHING = TideIsland.NOTHING;
    private static final int KIND = TideIsland.KIND, INDEX = TideIsland.INDEX, SIZE = TideIsland.SIZE;
    private static final int MOST = Integer.MAX_VALUE, LEAST = Integer.MIN_VALUE;

    public static void main(String[] args) {
        sheet();
        sheetMissing();
        sheetAnswer();
        sheetBad();
        sheetSize();
        mark();
        markShorts();
        markFloats();
        markNoNumber();
        markBadSheet();
        markNothing();
        markIndex();
        markKind();
        markBadFloat();
        pour();
        pourHeld();
        pourStays();
        pourMany();
        pourBad();
        pourNothing();
        reads();
        readsBad();
        readsNothing();
        readsNone();
        copy();
        copyTheSame();
        copyBad();
        copyNothing();
        copyKind();
        copyIndex();
        copyFromTo();
        copyInOrder();
        lay();
        layBad();
        layNothing();
        ask();
        askBad();
        askNothing();
        askKind();
        item();
        itemBad();
        itemNothing();
        itemNoSheet();
        itemIndex();
        itemNoNumber();
        rest();
        restBad();
        restNothing();
        restNoNumber();
        restBy0();
        for (int i = 28; i <= 36; i++) {
            Doc.allSaid("Promise " + i);
        }
        Due.end();
    }

    /** A sheet becomes a row of these numbers. */
    private static void fill(TideIsland x, int sheet, int sort, int... numbers) {
        x.sheet(sheet, sort, numbers.length);
        for (int place = 0; place < numbers.length; place++) {
            x.mark(sheet, place, numbers[place]);
        }
    }

    /** A sheet is a row of these numbers; NONE for what is no number. */
    private static void isRow(String what, TideIsland x, int sheet, int... due) {
        x.lay(4, 2, sheet);
        for (int place = 0; place < due.length; place++) {
            Due.due(what + ", place " + place, x.item(4, place), due[place] == NONE ? KIND : due[place]);
        }
        Due.due(what + ", and no more", x.item(4, due.length), INDEX);
    }

    private static void sheet() {
        Doc.says("Promise 28", "A SHEET becomes a row of n places of a sort, all 0");
        for (int sort = 0; sort < 2; sort++) {
            TideIsland x = new TideIsland();
            x.sheet(3, sort, 24);
            isRow("24 places", x, 3, new int[24]);
            for (int place = 0; place < 24; place++) {
                x.mark(3, place, 7);
            }
            x.sheet(3, 1 - sort, 24);
            isRow("24 places of another sort", x, 3, new int[24]);
            x.mark(3, 1, 8);
            x.sheet(3, 1 - sort, 2);
            isRow("2 places", x, 3, 0, 0);
            x.sheet(3, sort, 0);
            isRow("0 places", x, 3);
        }
        TideIsland x = new TideIsland();
        fill(x, 0, 0, 1, 2, 3);
        x.sheet(0, 0, 1);
        x.sheet(0, 0, 3);
        isRow("anew", x, 0, 0, 0, 0);
        fill(x, 0, 1, 1, NONE, 3);
        x.sheet(0, -1, 0);
        x.sheet(0, 1, 3);
        isRow("behind a missing one", x, 0, 0, 0, 0);
    }

    private static void sheetMissing() {
        Doc.says("Promise 28", "(sort -1: MISSING, n any):");
        TideIsland x = new TideIsland();
        for (int n : new int[] {0, 1, 24, 25, -1, MOST, LEAST, NONE}) {
            x.sheet(0, 0, 3);
            Due.due("missing, n " + n, x.sheet(0, -1, n), 0);
            Due.due("it is missing", x.reads(0), NOTHING);
            Due.due("missing already", x.sheet(0, -1, n), 0);
        }
        Due.due("no such sheet", x.sheet(4, -1, 0), BAD);
    }

    private static void sheetAnswer() {
        Doc.says("Promise 28", "n (0).");
        TideIsland x = new TideIsland();
        for (int n = 0; n <= 24; n++) {
            Due.due("shorts", x.sheet(n % 4, 0, n), n);
            Due.due("floats", x.sheet(n % 4, 1, n), n);
            Due.due("missing", x.sheet(n % 4, -1, n), 0);
        }
    }

    private static void sheetBad() {
        Doc.says("Promise 28", "BAD: sheet, sort, n above 24;");
        TideIsland x = new TideIsland();
        Due.outside("sheet", 0, 3, BAD, v -> x.sheet(v, 0, 1));
        Due.outside("sort", -1, 1, BAD, v -> x.sheet(0, v, 1));
        for (int n : new int[] {25, 26, 1000, MOST}) {
            Due.due(n + " shorts", x.sheet(0, 0, n), BAD);
            Due.due(n + " floats", x.sheet(0, 1, n), BAD);
        }
        Due.due("sort NONE", x.sheet(0, NONE, 1), BAD);
        Due.due("still missing", x.reads(0), NOTHING);
        Due.due("a bad sheet, ahead of SIZE", x.sheet(4, 0, -1), BAD);
        Due.due("a bad sort, ahead of SIZE", x.sheet(0, 2, -1), BAD);
    }

    private static void sheetSize() {
        Doc.says("Promise 28", "SIZE.");
        TideIsland x = new TideIsland();
        fill(x, 0, 0, 5);
        for (int n : new int[] {-1, -2, -25, LEAST, NONE, BAD}) {
            Due.due(n + " shorts", x.sheet(0, 0, n), SIZE);
            Due.due(n + " floats", x.sheet(0, 1, n), SIZE);
        }
        isRow("as it was", x, 0, 5);
    }

    private static void mark() {
        Doc.says("Promise 29", "A place of a SHEET becomes v");
        TideIsland x = new TideIsland();
        for (int sort = 0; sort < 2; sort++) {
            x.sheet(2, sort, 24);
            for (int place : new int[] {0, 23, 11}) {
                Due.due("mark", x.mark(2, place, 100 + place), 1);
            }
            int[] due = new int[24];
            due[0] = 100;
            due[23] = 123;
            due[11] = 111;
            isRow("sort " + sort, x, 2, due);
        }
    }

    private static void markShorts() {
        Doc.says("Promise 29", "(of shorts its lowest 16 bits;");
        TideIsland x = new TideIsland();
        x.sheet(0, 0, 1);
        int[][] due = {{0, 0}, {32767, 32767}, {32768, -32768}, {65535, -1}, {65536, 0}, {65537, 1}, {-1, -1}, {-32768, -32768},
            {-32769, 32767}, {MOST, -1}, {LEAST, 0}, {99999, -31073}, {100000, -31072}, {BAD, (short) BAD}};
        for (int[] d : due) {
            Due.due("mark " + d[0], x.mark(0, 0, d[0]), 1);
            isRow("short of " + d[0], x, 0, d[1]);
        }
    }

    private static void markFloats() {
        Doc.says("Promise 29", "of floats v, -99999 .. 99999;");
        TideIsland x = new TideIsland();
        x.sheet(0, 1, 1);
        for (int v : new int[] {0, 1, -1, 32768, 65536, 99998, 99999, -99998, -99999}) {
            Due.due("mark " + v, x.mark(0, 0, v), 1);
            isRow("float " + v, x, 0, v);
        }
    }

    private static void markNoNumber() {
        Doc.says("Promise 29", "NONE: NO NUMBER): 1.");
        TideIsland x = new TideIsland();
        fill(x, 0, 1, 4, 5, 6);
        Due.due("mark", x.mark(0, 1, NONE), 1);
        isRow("no number", x, 0, 4, NONE, 6);
        Due.due("mark", x.mark(0, 1, NONE), 1);
        Due.due("mark", x.mark(0, 1, 7), 1);
        isRow("a number again", x, 0, 4, 7, 6);
    }

    private static void markBadSheet() {
        Doc.says("Promise 29", "BAD: sheet;");
        TideIsland x = new TideIsland();
        x.sheet(0, 0, 1);
        Due.outside("sheet", 0, 3, BAD, v -> x.mark(v, 0, 1));
        Due.outside("sheet, place and v", 0, 3, BAD, v -> x.mark(v, -1, NONE));
    }

    private static void markNothing() {
        Doc.says("Promise 29", "NOTHING;");
        TideIsland x = new TideIsland();
        for (int sheet = 0; sheet < 4; sheet++) {
            Due.due("missing", x.mark(sheet, 0, 1), NOTHING);
            Due.due("missing, ahead of INDEX", x.mark(sheet, -1, 1), NOTHING);
            Due.due("missing, ahead of KIND", x.mark(sheet, 0, NONE), NOTHING);
            Due.due("missing, ahead of BAD for v", x.mark(sheet, 0, 100000), NOTHING);
        }
    }

    private static void markIndex() {
        Doc.says("Promise 29", "INDEX;");
        TideIsland x = new TideIsland();
        x.sheet(0, 0, 24);
        x.sheet(1, 1, 3);
        x.sheet(2, 0, 0);
        Due.outside("place of 24", 0, 23, INDEX, v -> x.mark(0, v, 1));
        Due.outside("place of 3", 0, 2, INDEX, v -> x.mark(1, v, 1));
        Due.due("place 0 of 0", x.mark(2, 0, 1), INDEX);
        Due.due("ahead of KIND", x.mark(0, 24, NONE), INDEX);
        Due.due("ahead of BAD for v", x.mark(1, 3, 100000), INDEX);
    }

    private static void markKind() {
        Doc.says("Promise 29", "KIND: NONE in a row of shorts;");
        TideIsland x = new TideIsland();
        fill(x, 0, 0, 9);
        Due.due("NONE", x.mark(0, 0, NONE), KIND);
        isRow("as it was", x, 0, 9);
        Due.due("one more than NONE is a number", x.mark(0, 0, NONE + 1), 1);
        Due.due("one less than NONE is a number", x.mark(0, 0, NONE - 1), 1);
    }

    private static void markBadFloat() {
        Doc.says("Promise 29", "BAD: v of floats.");
        TideIsland x = new TideIsland();
        fill(x, 0, 1, 9);
        Due.outside("v", -99999, 99999, BAD, v -> x.mark(0, 0, v));
        Due.due("one more than NONE", x.mark(0, 0, NONE + 1), BAD);
        Due.due("one less than NONE", x.mark(0, 0, NONE - 1), BAD);
        isRow("as it was", x, 0, 9);
        x.sheet(0, 0, 1);
        Due.due("of shorts it is none", x.mark(0, 0, 100000), 1);
    }

    private static void pour() {
        Doc.says("Promise 30", "CORN of the CELLS of a ROW (0 .. 4) becomes the places of a SHEET from 0 on");
        for (int row = 0; row < 5; row++) {
            for (int sort = 0; sort < 2; sort++) {
                TideIsland x = new TideIsland();
                fill(x, 0, sort, 11, 12, 13, 14, 15, 16, 17, 18);
                Due.due("pour into row " + row, x.pour(0, row), 6);
                for (int cell = 0; cell < 30; cell++) {
                    Due.due("cell " + cell, x.told(cell, 5), cell / 6 == row ? 11 + cell % 6 : 0);
                }
            }
        }
    }

    private static void pourHeld() {
        Doc.says("Promise 30", "(each held within 0 .. 99;");
        TideIsland x = new TideIsland();
        x.set(1, 0, 5);
        x.set(3, 0, 5);
        fill(x, 0, 1, 100, -1, 99999, -99999, 99, 98);
        Due.due("pour floats", x.pour(0, 0), 6);
        int[] due = {99, 0, 99, 0, 99, 98};
        for (int cell = 0; cell < 6; cell++) {
            Due.due("cell " + cell, x.told(cell, 5), due[cell]);
        }
        fill(x, 1, 0, 32767, -32768, 100, -1, 99, 0);
        Due.due("pour shorts", x.pour(1, 4), 3);
        int[] dueOfShorts = {99, 0, 99, 0, 99, 0};
        for (int i = 0; i < 6; i++) {
            Due.due("cell " + (24 + i), x.told(24 + i, 5), dueOfShorts[i]);
        }
    }

    private static void pourStays() {
        Doc.says("Promise 30", "NO NUMBER, and beyond the SHEET: it stays):");
        TideIsland x = new TideIsland();
        for (int cell = 0; cell < 30; cell++) {
            x.set(cell, 0, 50);
        }
        fill(x, 0, 1, NONE, 7, NONE, 8);
        Due.due("pour", x.pour(0, 2), 2);
        int[] due = {50, 7, 50, 8, 50, 50};
        for (int cell = 0; cell < 30; cell++) {
            Due.due("cell " + cell, x.told(cell, 5), cell / 6 == 2 ? due[cell % 6] : 50);
        }
        x.sheet(1, 0, 0);
        Due.due("an empty one", x.pour(1, 2), 0);
        x.sheet(1, 0, 1);
        Due.due("one place", x.pour(1, 4), 1);
        Due.due("cell 24", x.told(24, 5), 0);
        Due.due("cell 25", x.told(25, 5), 50);
        fill(x, 1, 0, 1, 2, 3, 4, 5);
        Due.due("five places", x.pour(1, 4), 5);
        Due.due("cell 28", x.told(28, 5), 5);
        Due.due("cell 29", x.told(29, 5), 50);
    }

    private static void pourMany() {
        Doc.says("Promise 30", "how many are otherwise then.");
        TideIsland x = new TideIsland();
        fill(x, 0, 1, 0, 1, 2, 200, -5, NONE);
        Due.due("0 and -5 are as before", x.pour(0, 0), 3);
        Due.due("all are as before", x.pour(0, 0), 0);
        x.set(3, 0, 98);
        Due.due("one is not", x.pour(0, 0), 1);
        Due.due("another row", x.pour(0, 4), 3);
        fill(x, 1, 0, 1, 2, 3, 4, 5, 6, 7);
        Due.due("six at most", x.pour(1, 3), 6);
    }

    private static void pourBad() {
        Doc.says("Promise 30", "BAD;");
        TideIsland x = new TideIsland();
        x.sheet(0, 0, 6);
        Due.outside("sheet", 0, 3, BAD, v -> x.pour(v, 0));
        Due.outside("row", 0, 4, BAD, v -> x.pour(0, v));
        Due.outside("row, ahead of NOTHING", 0, 4, BAD, v -> x.pour(1, v));
        Due.due("row NONE", x.pour(0, NONE), BAD);
    }

    private static void pourNothing() {
        Doc.says("Promise 30", "NOTHING.");
        TideIsland x = new TideIsland();
        x.set(0, 0, 5);
        for (int sheet = 0; sheet < 4; sheet++) {
            Due.due("missing", x.pour(sheet, 0), NOTHING);
        }
        Due.due("corn", x.told(0, 5), 5);
    }

    private static void reads() {
        Doc.says("Promise 31", "The first place (of numbers alone) at which a SHEET is not LEVEL so many hours on.");
        TideIsland x = Islands.with("tide h+3");
        x.sheet(0, 0, 24);
        x.sheet(1, 1, 24);
        for (int place = 0; place < 24; place++) {
            Due.due("place " + place + " of shorts", x.reads(0), place);
            Due.due("place " + place + " of floats", x.reads(1), place);
            x.mark(0, place, place + 3);
            x.mark(1, place, place % 2 == 0 ? NONE : place + 3);
        }
        x.mark(0, 5, 7);
        x.mark(0, 9, 7);
        Due.due("the first of two", x.reads(0), 5);
        x.mark(1, 0, 4);
        Due.due("place 0", x.reads(1), 0);
        x.mark(1, 0, NONE);
        Due.due("NO NUMBER at place 0", x.reads(1), NONE);
        x.run(1);
        Due.due("an hour later", x.reads(1), 1);
    }

    private static void readsBad() {
        Doc.says("Promise 31", "BAD;");
        TideIsland x = new TideIsland();
        Due.outside("sheet", 0, 3, BAD, x::reads);
        Due.due("sheet NONE", x.reads(NONE), BAD);
    }

    private static void readsNothing() {
        Doc.says("Promise 31", "NOTHING;");
        TideIsland x = new TideIsland();
        for (int sheet = 0; sheet < 4; sheet++) {
            Due.due("missing", x.reads(sheet), NOTHING);
        }
    }

    private static void readsNone() {
        Doc.says("Promise 31", "NONE: there is none.");
        TideIsland x = Islands.with("tide 0");
        x.sheet(0, 0, 24);
        Due.due("24 shorts", x.reads(0), NONE);
        x.sheet(0, 0, 0);
        Due.due("no place", x.reads(0), NONE);
        fill(x, 1, 1, NONE, NONE);
        Due.due("no numbers", x.reads(1), NONE);
    }

    private static void copy() {
        Doc.says("Promise 32", "So many places of a SHEET come to another one (or the same), as they were: many.");
        TideIsland x = new TideIsland();
        fill(x, 0, 0, 10, 11, 12, 13);
        fill(x, 3, 0, 20, 21, 22);
        Due.due("two places", x.copy(0, 2, 3, 0, 2), 2);
        isRow("to", x, 3, 12, 13, 22);
        isRow("from", x, 0, 10, 11, 12, 13);
        Due.due("all that there is room for", x.copy(0, 0, 3, 0, 3), 3);
        isRow("to", x, 3, 10, 11, 12);
        Due.due("the last place", x.copy(0, 3, 3, 2, 1), 1);
        isRow("to", x, 3, 10, 11, 13);
        Due.due("none", x.copy(0, 0, 3, 0, 0), 0);
        Due.due("none, from behind the last", x.copy(0, 4, 3, 0, 0), 0);
        Due.due("none, to behind the last", x.copy(0, 0, 3, 3, 0), 0);
        isRow("to", x, 3, 10, 11, 13);
        fill(x, 1, 1, 7, NONE, -99999);
        fill(x, 2, 1, 1, 2, NONE);
        Due.due("floats", x.copy(1, 0, 2, 0, 3), 3);
        isRow("no number comes, and goes", x, 2, 7, NONE, -99999);
        x.sheet(0, 1, 24);
        x.sheet(1, 1, 24);
        x.mark(0, 23, 5);
        Due.due("24 places", x.copy(0, 0, 1, 0, 24), 24);
        x.lay(0, 2, 1);
        Due.due("the last of them", x.item(0, 23), 5);
    }

    private static void copyTheSame() {
        Doc.says("Promise 32", "(or the same), as they were: many.");
        TideIsland x = new TideIsland();
        fill(x, 0, 0, 1, 2, 3, 4, 5);
        Due.due("on", x.copy(0, 0, 0, 1, 4), 4);
        isRow("on", x, 0, 1, 1, 2, 3, 4);
        fill(x, 0, 0, 1, 2, 3, 4, 5);
        Due.due("back", x.copy(0, 1, 0, 0, 4), 4);
        isRow("back", x, 0, 2, 3, 4, 5, 5);
        fill(x, 0, 1, 1, NONE, 3, 4, 5);
        Due.due("on by two", x.copy(0, 0, 0, 2, 3), 3);
        isRow("on by two", x, 0, 1, NONE, 1, NONE, 3);
        Due.due("to where it is", x.copy(0, 0, 0, 0, 5), 5);
        isRow("to where it is", x, 0, 1, NONE, 1, NONE, 3);
    }

    private static void copyBad() {
        Doc.says("Promise 32", "BAD;");
        TideIsland x = new TideIsland();
        x.sheet(0, 0, 3);
        Due.outside("from", 0, 3, BAD, v -> x.copy(v, 0, 0, 0, 1));
        Due.outside("to", 0, 3, BAD, v -> x.copy(0, 0, v, 0, 1));
        Due.outside("from, ahead of NOTHING", 0, 3, BAD, v -> x.copy(v, 0, 1, 0, 1));
        Due.outside("to, ahead of NOTHING", 0, 3, BAD, v -> x.copy(1, 0, v, 0, 1));
        Due.outside("to, ahead of INDEX", 0, 3, BAD, v -> x.copy(0, 9, v, 0, 1));
    }

    private static void copyNothing() {
        Doc.says("Promise 32", "NOTHING;");
        TideIsland x = new TideIsland();
        x.sheet(0, 0, 3);
        Due.due("from", x.copy(1, 0, 0, 0, 1), NOTHING);
        Due.due("to", x.copy(0, 0, 1, 0, 1), NOTHING);
        Due.due("both", x.copy(1, 0, 2, 0, 1), NOTHING);
        Due.due("no places", x.copy(0, 0, 1, 0, 0), NOTHING);
        Due.due("ahead of INDEX", x.copy(0, 9, 1, -1, -1), NOTHING);
    }

    private static void copyKind() {
        Doc.says("Promise 32", "KIND: they are not of one sort;");
        TideIsland x = new TideIsland();
        fill(x, 0, 0, 1, 2);
        fill(x, 1, 1, 3, 4);
        Due.due("shorts to floats", x.copy(0, 0, 1, 0, 1), KIND);
        Due.due("floats to shorts", x.copy(1, 0, 0, 0, 1), KIND);
        Due.due("no places", x.copy(1, 0, 0, 0, 0), KIND);
        Due.due("ahead of INDEX", x.copy(1, 9, 0, -1, 1), KIND);
        isRow("as it was", x, 0, 1, 2);
        isRow("as it was", x, 1, 3, 4);
    }

    private static void copyIndex() {
        Doc.says("Promise 32", "INDEX.");
        TideIsland x = new TideIsland();
        fill(x, 0, 0, 1, 2, 3, 4);
        fill(x, 1, 0, 5, 6, 7);
        int[][] wrong = {{-1, 0, 1}, {0, -1, 1}, {-1, 0, 0}, {0, -1, 0}, {4, 0, 1}, {5, 0, 0}, {0, 3, 1}, {0, 4, 0}, {3, 0, 2}, {0, 2, 2},
            {0, 0, 4}, {1, 0, 4}, {0, 0, 5}, {0, 0, -1}, {4, 0, -1}, {0, 3, -1}, {0, 0, LEAST}, {0, 0, MOST}, {1, 1, MOST}, {MOST, 0, 1},
            {0, MOST, 1}, {LEAST, 0, 1}, {0, LEAST, 1}, {MOST, MOST, MOST}, {LEAST, LEAST, LEAST}, {MOST, 0, MOST}, {NONE, 0, 1}};
        for (int[] w : wrong) {
            Due.due("from " + w[0] + " to " + w[1] + ", " + w[2], x.copy(0, w[0], 1, w[1], w[2]), INDEX);
        }
        isRow("from", x, 0, 1, 2, 3, 4);
        isRow("to", x, 1, 5, 6, 7);
        x.sheet(2, 0, 0);
        Due.due("from an empty one", x.copy(2, 0, 0, 0, 1), INDEX);
        Due.due("to an empty one", x.copy(0, 0, 2, 0, 1), INDEX);
        Due.due("none of it", x.copy(2, 0, 2, 0, 0), 0);
    }

    private static void copyFromTo() {
        Doc.says("Promise 32", "(From a SHEET, its place, to a SHEET, its place.)");
        TideIsland x = new TideIsland();
        fill(x, 0, 0, 10, 11, 12, 13, 14);
        fill(x, 1, 0, 20, 21, 22, 23);
        Due.due("from sheet 0, place 4, to sheet 1, place 1", x.copy(0, 4, 1, 1, 1), 1);
        isRow("to", x, 1, 20, 14, 22, 23);
        isRow("from", x, 0, 10, 11, 12, 13, 14);
        Due.due("from sheet 1, place 3, to sheet 0, place 0", x.copy(1, 3, 0, 0, 1), 1);
        isRow("to", x, 0, 23, 11, 12, 13, 14);
        isRow("from", x, 1, 20, 14, 22, 23);
        Due.due("place 4 is of sheet 0 alone", x.copy(1, 4, 0, 1, 1), INDEX);
    }

    private static void copyInOrder() {
        Doc.says("Promise 32", "BAD; NOTHING; KIND: they are not of one sort; INDEX.");
        TideIsland x = new TideIsland();
        x.sheet(0, 0, 2);
        x.sheet(1, 1, 2);
        Due.due("all of them", x.copy(4, -1, 2, -1, -1), BAD);
        Due.due("NOTHING, KIND, INDEX", x.copy(2, -1, 1, -1, -1), NOTHING);
        Due.due("KIND, INDEX", x.copy(0, -1, 1, -1, -1), KIND);
        Due.due("INDEX", x.copy(0, -1, 0, -1, -1), INDEX);
    }

    private static void lay() {
        Doc.says("Promise 33", "A SLOT holds: thing 0 nothing, 1 the LAND of CELL k, 2 SHEET k, 3 the number k: what it held (0 .. 3).");
        TideIsland x = new TideIsland();
        x.land(0, 0, 4);
        x.land(29, 0, 9);
        for (int sheet = 0; sheet < 4; sheet++) {
            fill(x, sheet, 0, 70 + sheet);
        }
        for (int slot = 0; slot < 5; slot++) {
            Due.due("it held nothing", x.lay(slot, 0, 0), 0);
            Due.due("it held nothing", x.lay(slot, 1, 0), 0);
            Due.due("cell 0", x.ask(slot, 0), 4);
            Due.due("it held land", x.lay(slot, 1, 29), 1);
            Due.due("cell 29", x.ask(slot, 0), 9);
            Due.due("it held land", x.lay(slot, 2, 0), 1);
            Due.due("sheet 0", x.item(slot, 0), 70);
            Due.due("it held a sheet", x.lay(slot, 2, 3), 2);
            Due.due("sheet 3", x.item(slot, 0), 73);
            Due.due("it held a sheet", x.lay(slot, 3, MOST), 2);
            Due.due("a number", x.rest(slot, 1000), MOST % 1000);
            Due.due("it held a number", x.lay(slot, 3, LEAST), 3);
            Due.due("a number", x.rest(slot, 1000), LEAST % 1000);
            Due.due("it held a number", x.lay(slot, 0, 7), 3);
            Due.due("nothing", x.rest(slot, 1000), NOTHING);
        }
    }

    private static void layBad() {
        Doc.says("Promise 33", "BAD: slot, thing, k;");
        TideIsland x = new TideIsland();
        x.sheet(0, 0, 1);
        x.lay(0, 3, 12);
        for (int thing = 0; thing < 4; thing++) {
            int asked = thing;
            Due.outside("slot", 0, 4, BAD, v -> x.lay(v, asked, 0));
        }
        Due.outside("thing", 0, 3, BAD, v -> x.lay(0, v, 0));
        Due.outside("cell", 0, 29, BAD, v -> x.lay(0, 1, v));
        Due.outside("sheet", 0, 3, BAD, v -> x.lay(0, 2, v));
        Due.due("cell NONE", x.lay(0, 1, NONE), BAD);
        Due.due("it holds what it held", x.rest(0, 100), 12);
    }

    private static void layNothing() {
        Doc.says("Promise 33", "NOTHING: that SHEET is MISSING.");
        TideIsland x = new TideIsland();
        x.lay(0, 3, 12);
        for (int sheet = 0; sheet < 4; sheet++) {
            Due.due("missing", x.lay(0, 2, sheet), NOTHING);
            Due.due("it holds what it held", x.rest(0, 100), 12);
        }
        x.sheet(0, 0, 0);
        Due.due("one of 0 places is not missing", x.lay(0, 2, 0), 3);
        Due.due("slot 5, ahead of it", x.lay(5, 2, 1), BAD);
    }

    private static void ask() {
        Doc.says("Promise 34", "WORTH of the LAND in a SLOT, taken for one of a KIND (0 .. 5).");
        int[][] under = {{0}, {0, 1}, {0, 2}, {0, 1, 3}, {0, 2, 4}, {0, 5}};
        int[] low = {0, 3, 20, 6, 29, 50};
        int[] high = {20, 23, 0, 46, 9, 50};
        for (int slot : new int[] {0, 4}) {
            TideIsland x = new TideIsland();
            for (int kind = 0; kind < 6; kind++) {
                x.land(0, kind, 0);
                x.land(29, kind, 20);
                for (int above : under[kind]) {
                    x.lay(slot, 1, 0);
                    Due.due("kind " + kind + " for " + above, x.ask(slot, above), low[kind]);
                    x.lay(slot, 1, 29);
                    Due.due("kind " + kind + " for " + above, x.ask(slot, above), high[kind]);
                }
            }
        }
    }

    private static void askBad() {
        Doc.says("Promise 34", "BAD;");
        TideIsland x = new TideIsland();
        x.lay(0, 1, 0);
        x.lay(1, 3, 0);
        Due.outside("slot", 0, 4, BAD, v -> x.ask(v, 0));
        Due.outside("kind", 0, 5, BAD, v -> x.ask(0, v));
        Due.outside("kind, ahead of KIND", 0, 5, BAD, v -> x.ask(1, v));
        Due.outside("kind, ahead of NOTHING", 0, 5, BAD, v -> x.ask(2, v));
    }

    private static void askNothing() {
        Doc.says("Promise 34", "NOTHING;");
        TideIsland x = new TideIsland();
        for (int slot = 0; slot < 5; slot++) {
            Due.due("nothing", x.ask(slot, slot), NOTHING);
            x.lay(slot, 1, 0);
            x.lay(slot, 0, 0);
            Due.due("nothing again", x.ask(slot, 0), NOTHING);
        }
    }

    private static void askKind() {
        Doc.says("Promise 34", "KIND: it is no LAND, or not of that KIND, nor of one under it.");
        TideIsland x = new TideIsland();
        x.sheet(0, 0, 1);
        x.lay(0, 2, 0);
        x.lay(1, 3, 0);
        for (int kind = 0; kind < 6; kind++) {
            Due.due("a sheet", x.ask(0, kind), KIND);
            Due.due("a number", x.ask(1, kind), KIND);
        }
        int[][] not = {{1, 2, 3, 4, 5}, {2, 3, 4, 5}, {1, 3, 4, 5}, {2, 4, 5}, {1, 3, 5}, {1, 2, 3, 4}};
        for (int kind = 0; kind < 6; kind++) {
            x.land(0, kind, 9);
            x.lay(2, 1, 0);
            for (int other : not[kind]) {
                Due.due("kind " + kind + " for " + other, x.ask(2, other), KIND);
            }
        }
    }

    private static void item() {
        Doc.says("Promise 35", "A place of the SHEET in a SLOT.");
        TideIsland x = new TideIsland();
        x.sheet(0, 0, 24);
        x.sheet(1, 1, 24);
        for (int place = 0; place < 24; place++) {
            x.mark(0, place, -32768 + place);
            x.mark(1, place, 99999 - place);
        }
        x.lay(0, 2, 0);
        x.lay(4, 2, 1);
        for (int place = 0; place < 24; place++) {
            Due.due("a short", x.item(0, place), -32768 + place);
            Due.due("a float", x.item(4, place), 99999 - place);
        }
    }

    private static void itemBad() {
        Doc.says("Promise 35", "BAD: slot;");
        TideIsland x = new TideIsland();
        Due.outside("slot", 0, 4, BAD, v -> x.item(v, 0));
        Due.outside("slot and place", 0, 4, BAD, v -> x.item(v, -1));
    }

    private static void itemNothing() {
        Doc.says("Promise 35", "NOTHING;");
        TideIsland x = new TideIsland();
        for (int slot = 0; slot < 5; slot++) {
            Due.due("nothing", x.item(slot, 0), NOTHING);
            Due.due("ahead of INDEX", x.item(slot, -1), NOTHING);
        }
        x.sheet(0, 0, 1);
        x.lay(0, 2, 0);
        x.lay(0, 0, 0);
        Due.due("nothing again", x.item(0, 0), NOTHING);
    }

    private static void itemNoSheet() {
        Doc.says("Promise 35", "KIND: it is no SHEET;");
        TideIsland x = new TideIsland();
        x.lay(0, 1, 0);
        x.lay(1, 3, 5);
        Due.due("land", x.item(0, 0), KIND);
        Due.due("a number", x.item(1, 0), KIND);
        Due.due("land, ahead of INDEX", x.item(0, -1), KIND);
        Due.due("a number, ahead of INDEX", x.item(1, 24), KIND);
    }

    private static void itemIndex() {
        Doc.says("Promise 35", "INDEX;");
        TideIsland x = new TideIsland();
        x.sheet(0, 0, 24);
        x.sheet(1, 1, 3);
        x.sheet(2, 0, 0);
        for (int slot = 0; slot < 3; slot++) {
            x.lay(slot, 2, slot);
        }
        Due.outside("place of 24", 0, 23, INDEX, v -> x.item(0, v));
        Due.outside("place of 3", 0, 2, INDEX, v -> x.item(1, v));
        Due.due("place 0 of 0", x.item(2, 0), INDEX);
        x.lay(0, 2, 1);
        Due.due("place 3, which an older sheet in the slot had", x.item(0, 3), INDEX);
        Due.due("place NONE", x.item(0, NONE), INDEX);
    }

    private static void itemNoNumber() {
        Doc.says("Promise 35", "KIND: NO NUMBER.");
        TideIsland x = new TideIsland();
        fill(x, 0, 1, NONE, 1, NONE);
        x.lay(0, 2, 0);
        Due.due("place 0", x.item(0, 0), KIND);
        Due.due("place 1", x.item(0, 1), 1);
        Due.due("place 2", x.item(0, 2), KIND);
        Due.due("INDEX ahead of it", x.item(0, 3), INDEX);
    }

    private static void rest() {
        Doc.says("Promise 36", "The rest of the number in a SLOT by n.");
        int[][] due = {{17, 5, 2}, {17, -5, 2}, {-17, 5, -2}, {-17, -5, -2}, {0, 7, 0}, {5, 5, 0}, {5, 6, 5}, {-5, 6, -5}, {9, 1, 0},
            {9, -1, 0}, {LEAST, -1, 0}, {LEAST, 10, -8}, {LEAST, MOST, -1}, {MOST, LEAST, MOST}, {LEAST, LEAST, 0}, {MOST, 10, 7}};
        TideIsland x = new TideIsland();
        for (int[] d : due) {
            for (int slot : new int[] {0, 4}) {
                x.lay(slot, 3, d[0]);
                Due.due(d[0] + " by " + d[1], x.rest(slot, d[1]), d[2]);
            }
        }
    }

    private static void restBad() {
        Doc.says("Promise 36", "BAD: slot;");
        TideIsland x = new TideIsland();
        Due.outside("slot", 0, 4, BAD, v -> x.rest(v, 1));
        Due.outside("slot, ahead of NO", 0, 4, BAD, v -> x.rest(v, 0));
    }

    private static void restNothing() {
        Doc.says("Promise 36", "NOTHING;");
        TideIsland x = new TideIsland();
        for (int slot = 0; slot < 5; slot++) {
            Due.due("nothing", x.rest(slot, 1), NOTHING);
            Due.due("ahead of NO", x.rest(slot, 0), NOTHING);
        }
        x.lay(0, 3, 5);
        x.lay(0, 0, 0);
        Due.due("nothing again", x.rest(0, 1), NOTHING);
    }

    private static void restNoNumber() {
        Doc.says("Promise 36", "KIND: it is no number;");
        TideIsland x = new TideIsland();
        x.sheet(0, 0, 1);
        x.lay(0, 1, 0);
        x.lay(1, 2, 0);
        Due.due("land", x.rest(0, 1), KIND);
        Due.due("a sheet", x.rest(1, 1), KIND);
        Due.due("land, ahead of NO", x.rest(0, 0), KIND);
        Due.due("a sheet, ahead of NO", x.rest(1, 0), KIND);
    }

    private static void restBy0() {
        Doc.says("Promise 36", "NO: n is 0.");
        TideIsland x = new TideIsland();
        for (int v : new int[] {0, 1, -1, MOST, LEAST}) {
            x.lay(0, 3, v);
            Due.due(v + " by 0", x.rest(0, 0), NO);
        }
        Due.due("it holds what it held", x.rest(0, 1000), LEAST % 1000);
    }
}
