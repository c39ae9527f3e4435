import java.util.function.ToIntFunction;

/** Sentence by sentence: for how long an object is used, the opening of the terms, and their part 1, cells and the sea. */
public final class Terms1Test {
    private static final int BAD = TideIsland.BAD, NO = TideIsland.NO, FULL = TideIsland.FULL, NONE = TideIsland.NONE;
    private static final int NOTHING = TideIsland.NOTHING, KIND = TideIsland.KIND, INDEX = TideIsland.INDEX;

    public static void main(String[] args) {
        the512thCall();
        cutTowards0();
        theFirstOfSeveral();
        refusedChangesNothing();
        thereIsNone();
        bits();
        Doc.allSaid("Terms");
        cells();
        beside();
        besideInOrder();
        landAtFirst();
        kinds();
        top();
        topOfStone();
        roomHeld();
        roomOfField();
        roomOfRaised();
        roomOfWalledAndStone();
        worth();
        cornGrowsOnFieldsAlone();
        asTheOneAbove();
        theSea();
        theHour();
        levelHeld();
        levelByTheHour();
        levelTurns();
        levelTogetherBySix();
        levelSpring();
        levelStorm();
        dry();
        Doc.allSaid("Terms 1");
        Due.end();
    }

    private static void the512thCall() {
        Doc.says("What it is", "An object is used for at most 512 calls after it has been made");
        TideIsland x = new TideIsland();
        for (int call = 1; call < 512; call++) {
            x.seed(call);
        }
        Due.due("the 512th call", x.seed(0), 511);
    }

    private static void cutTowards0() {
        Doc.says("Terms", "All numbers are whole; / cuts towards 0.");
        String[] texts = {"room 7/2", "room (0-7)/2+9", "room 7/(0-2)+9", "room (0-7)/(0-2)", "room (0-1)/2+9"};
        int[] due = {3, 6, 6, 3, 9};
        for (int i = 0; i < texts.length; i++) {
            Due.due(texts[i], Islands.with(texts[i]).told(0, 3), due[i]);
        }
    }

    private static void theFirstOfSeveral() {
        Doc.says("Terms", "A call that is refused answers one of BAD, NO, FULL, or a FINDING, of several the one that stands first with it,");
        TideIsland x = new TideIsland();
        Due.due("BAD ahead of KIND", x.as(30, 1), BAD);
        Due.due("BAD ahead of NO", x.check(0), BAD);
        for (int i = 0; i < 8; i++) {
            x.house(1);
        }
        Due.due("BAD ahead of FULL", x.house(100), BAD);
        Due.due("BAD ahead of NO", x.going(0, 30), BAD);
        for (int i = 0; i < 14; i++) {
            Tapes.text(x, "tide 1");
        }
        Due.due("a FAULT ahead of FULL", Tapes.text(x, "tide"), -104);
        x = new TideIsland();
        x.sheet(0, 0, 2);
        x.sheet(1, 1, 2);
        Due.due("BAD ahead of SIZE, by the sheet", x.sheet(4, 0, -1), BAD);
        Due.due("BAD ahead of SIZE, by the sort", x.sheet(0, 2, -1), BAD);
        Due.due("BAD ahead of NOTHING, by the row", x.pour(3, 5), BAD);
        Due.due("NOTHING ahead of INDEX", x.mark(3, -1, 0), NOTHING);
        Due.due("NOTHING ahead of BAD, by v", x.mark(3, 0, 100000), NOTHING);
        Due.due("INDEX ahead of KIND", x.mark(0, 2, NONE), INDEX);
        Due.due("INDEX ahead of BAD, by v", x.mark(1, 2, 100000), INDEX);
        Due.due("BAD ahead of NOTHING", x.copy(3, 0, 4, 0, 1), BAD);
        Due.due("NOTHING ahead of KIND and INDEX", x.copy(1, 9, 3, 0, 1), NOTHING);
        Due.due("KIND ahead of INDEX", x.copy(0, 9, 1, 0, 1), KIND);
        Due.due("BAD ahead of NOTHING", x.lay(5, 2, 3), BAD);
        Due.due("BAD ahead of NOTHING", x.ask(0, 6), BAD);
        Due.due("NOTHING ahead of INDEX", x.item(0, -1), NOTHING);
        Due.due("NOTHING ahead of NO", x.rest(0, 0), NOTHING);
        x.lay(0, 3, 7);
        x.lay(1, 1, 0);
        Due.due("KIND ahead of INDEX", x.item(0, -1), KIND);
        Due.due("KIND ahead of NO", x.rest(1, 0), KIND);
    }

    /** An object in which each call has something that it could spoil. */
    private static TideIsland full() {
        TideIsland x = new TideIsland();
        x.seed(2024);
        x.deal();
        x.land(5, 0, 9);
        x.house(7);
        x.house(30);
        x.settle(0, 3);
        Tapes.text(x, "room t+h");
        x.set(29, 0, 40);
        x.set(0, 1, 3);
        x.run(5);
        x.keep();
        x.set(29, 0, 41);
        Tapes.text(x, "grow 2");
        int[] sorts = {0, 1, 1};
        for (int sheet = 0; sheet < sorts.length; sheet++) {
            x.sheet(sheet, sorts[sheet], 5);
            for (int place = 0; place < 5; place++) {
                x.mark(sheet, place, 10 * sheet + place);
            }
        }
        x.mark(1, 2, NONE);
        x.lay(0, 1, 29);
        x.lay(1, 2, 1);
        x.lay(2, 3, 77);
        x.tell(x.sky(0, 1));
        x.feed(0x67726F77, 0x20632B31, 0x20202020);
        return x;
    }

    private static void unchanged(String call, int due, ToIntFunction<TideIsland> asks) {
        TideIsland x = full();
        Due.due(call, asks.applyAsInt(x), due);
        Readout.same(call, x, full());
    }

    private static void refusedChangesNothing() {
        Doc.says("Terms", "and changes nothing (but the tape and the numbers that wait, where told).");
        unchanged("land of cell 30", BAD, x -> x.land(30, 1, 1));
        unchanged("land of kind 6", BAD, x -> x.land(0, 6, 1));
        unchanged("land of height 21", BAD, x -> x.land(0, 1, 21));
        unchanged("told", BAD, x -> x.told(0, 8));
        unchanged("as", KIND, x -> x.as(5, 1));
        unchanged("turns", BAD, x -> x.turns(0, 6));
        unchanged("set corn", BAD, x -> x.set(0, 0, 100));
        unchanged("set owner", BAD, x -> x.set(0, 1, 8));
        unchanged("sea", BAD, x -> x.sea(0, 21));
        unchanged("sky", BAD, x -> x.sky(200, 0));
        unchanged("worst", BAD, x -> x.worst(0, 0));
        unchanged("dryFor", BAD, x -> x.dryFor(30));
        unchanged("window", BAD, x -> x.window(0, 25));
        unchanged("owns", BAD, x -> x.owns(8, 0));
        unchanged("richest", BAD, x -> x.richest(2));
        unchanged("house", BAD, x -> x.house(0));
        unchanged("houseTold", BAD, x -> x.houseTold(2, 0));
        unchanged("settle of no house", BAD, x -> x.settle(2, 0));
        unchanged("settle on cell 30", BAD, x -> x.settle(0, 30));
        unchanged("cut", BAD, x -> x.cut(-1));
        unchanged("lack", BAD, x -> x.lack(200));
        unchanged("going", NO, x -> x.going(1, 0));
        unchanged("run", BAD, x -> x.run(100));
        unchanged("trim", BAD, x -> x.trim(13));
        unchanged("textTold", BAD, x -> x.textTold(2, 0));
        unchanged("why", BAD, x -> x.why(3));
        unchanged("sheet of 25", BAD, x -> x.sheet(0, 1, 25));
        unchanged("sheet of -1", TideIsland.SIZE, x -> x.sheet(0, 1, -1));
        unchanged("mark beyond it", INDEX, x -> x.mark(0, 5, 1));
        unchanged("mark with NONE", KIND, x -> x.mark(0, 0, NONE));
        unchanged("mark with 100000", BAD, x -> x.mark(1, 0, 100000));
        unchanged("pour", BAD, x -> x.pour(0, 5));
        unchanged("pour of a missing one", NOTHING, x -> x.pour(3, 0));
        unchanged("reads", NOTHING, x -> x.reads(3));
        unchanged("copy beyond it", INDEX, x -> x.copy(1, 0, 2, 3, 3));
        unchanged("copy of what there is not", INDEX, x -> x.copy(1, 3, 2, 0, 3));
        unchanged("copy to another sort", KIND, x -> x.copy(0, 0, 1, 0, 1));
        unchanged("lay of cell 30", BAD, x -> x.lay(0, 1, 30));
        unchanged("lay of a missing sheet", NOTHING, x -> x.lay(2, 2, 3));
        unchanged("ask", NOTHING, x -> x.ask(3, 0));
        unchanged("item", INDEX, x -> x.item(1, 5));
        unchanged("rest", NO, x -> x.rest(2, 0));
        unchanged("count", BAD, x -> x.count(10));
        refusedUsesUp();
    }

    private static void refusedUsesUp() {
        TideIsland x = full();
        TideIsland y = full();
        x.trim(4);
        Due.due("a text with a fault", x.text(), -104);
        y.trim(0);
        Readout.same("a text with a fault uses up the tape alone", x, y);
        x = full();
        y = full();
        Due.due("check of 31 hours", x.check(31), BAD);
        Due.due("check of one hour", y.check(1) >= 0 ? 1 : 0, 1);
        Readout.same("a refused check uses up the numbers alone", x, y);
        x = new TideIsland();
        for (int i = 1; i <= 60; i++) {
            x.tell(i);
        }
        Due.due("a 61st number", x.tell(61), FULL);
        Due.due("60 wait", x.count(7), 60);
        for (int i = 0; i < 8; i++) {
            x.house(i + 1);
            x.feed(0, 0, 0);
        }
        Due.due("a ninth house", x.house(9), FULL);
        Due.due("8 houses", x.count(1), 8);
        Due.due("the last of them", x.houseTold(7, 0), 8);
        Due.due("97 bytes", x.feed(0, 0, 0), FULL);
        Due.due("96 bytes", x.count(8), 96);
        Due.due("back without an image", x.back(), NO);
        Due.due("still 8 houses", x.count(1), 8);
    }

    private static void thereIsNone() {
        Doc.says("Terms", "NONE: there is none.");
        TideIsland x = new TideIsland();
        x.house(1);
        Due.due("no owner", x.told(0, 6), NONE);
        Due.due("no cell of a house", x.houseTold(0, 1), NONE);
        Due.due("no text", x.why(0), NONE);
        Due.due("no window", x.window(0, 1), NONE);
    }

    private static void bits() {
        Doc.says("Terms", "Sets of HOUSES are told as bits.");
        TideIsland x = Islands.dry(0, 29);
        for (int house = 0; house < 8; house++) {
            x.house(1);
        }
        for (int house = 0; house < 8; house++) {
            x.settle(house, 29);
            Due.due("house " + house + " alone", x.cut(0), 1 << house);
            x.settle(house, 0);
        }
        for (int house = 0; house < 8; house++) {
            x.settle(house, 29);
        }
        Due.due("all", x.cut(0), 255);
    }

    private static void cells() {
        Doc.says("Terms 1", "CELLS are 0 .. 29: CELL 6 times the ROW (0 .. 4) and the COLUMN (0 .. 5).");
        for (int row = 0; row < 5; row++) {
            TideIsland x = new TideIsland();
            x.sheet(0, 0, 24);
            for (int place = 0; place < 24; place++) {
                x.mark(0, place, 1 + place);
            }
            x.pour(0, row);
            for (int cell = 0; cell < 30; cell++) {
                Due.due("row " + row + ", cell " + cell, x.told(cell, 5), cell / 6 == row ? 1 + cell % 6 : 0);
            }
        }
        TideIsland x = new TideIsland();
        Due.outside("told of a cell", 0, 29, BAD, v -> x.told(v, 0));
        Due.outside("row", 0, 4, BAD, v -> x.pour(0, v));
    }

    private static boolean areBeside(int one, int other) {
        return Math.abs(one / 6 - other / 6) + Math.abs(one % 6 - other % 6) == 1;
    }

    private static void beside() {
        Doc.says("Terms 1", "as far as there are such.");
        for (int from = 0; from < 30; from++) {
            for (int to = 0; to < 30; to++) {
                if (from != to) {
                    TideIsland x = Islands.dry(to);
                    x.house(1);
                    x.settle(0, from);
                    x.run(1);
                    Due.due("from " + from + " to " + to, x.houseTold(0, 1), areBeside(from, to) ? to : NONE);
                    x = Islands.dry(from, to);
                    Due.due("parts of " + from + " and " + to, x.sky(0, 2), areBeside(from, to) ? 1 : 2);
                    x.house(1);
                    x.settle(0, from);
                    Due.due("going from " + from + " to " + to, x.going(0, to), areBeside(from, to) ? 1 : NONE);
                }
            }
        }
    }

    private static void besideInOrder() {
        Doc.says("Terms 1", "BESIDE a CELL are, in this order: the one of the next ROW, the next one of its ROW, "
            + "the one of the ROW ahead, the one ahead in its ROW,");
        int[] steps = {6, 1, -6, -1};
        for (int cell = 0; cell < 30; cell++) {
            TideIsland x = Islands.flat(0, 20);
            x.land(cell, 0, 0);
            x.house(1);
            for (int step : steps) {
                int next = cell + step;
                if (next >= 0 && next < 30 && areBeside(cell, next)) {
                    x.settle(0, cell);
                    x.run(1);
                    Due.due("the first beside " + cell, x.houseTold(0, 1), next);
                    x.land(next, 0, 0);
                }
            }
        }
    }

    private static void landAtFirst() {
        Doc.says("Terms 1", "On each is LAND: HEIGHT 0 .. 20 (0 at first), CORN 0 .. 99 (0), an OWNER 0 .. 7 or none (none), "
            + "and of a KIND: 0 LAND (at first);");
        TideIsland x = new TideIsland();
        for (int cell = 0; cell < 30; cell++) {
            Due.due("kind of " + cell, x.told(cell, 0), 0);
            Due.due("height of " + cell, x.told(cell, 1), 0);
            Due.due("corn of " + cell, x.told(cell, 5), 0);
            Due.due("owner of " + cell, x.told(cell, 6), NONE);
        }
        for (int least : new int[] {0, 29}) {
            Due.due("height 20", x.land(least, 0, 20), 0);
            Due.due("height 20", x.told(least, 1), 20);
            Due.due("height 0", x.land(least, 0, 0), 0);
            Due.due("height 0", x.told(least, 1), 0);
            Due.due("corn 99", x.set(least, 0, 99), 0);
            Due.due("corn 0", x.set(least, 0, 0), 99);
            Due.due("owner 7", x.set(least, 1, 7), NONE);
            Due.due("owner 0", x.set(least, 1, 0), 7);
            Due.due("no owner", x.set(least, 1, NONE), 0);
        }
        Due.outside("height", 0, 20, BAD, v -> x.land(3, 0, v));
        Due.outside("corn", 0, 99, BAD, v -> x.set(3, 0, v));
        Due.outside("owner", 0, 7, BAD, v -> x.set(3, 1, v));
    }

    private static void kinds() {
        Doc.says("Terms 1", "1 FIELD, 2 WALLED, 5 STONE, under LAND; 3 RAISED, under FIELD; 4 DYKED, under WALLED (all are LAND).");
        int[][] under = {{0}, {0, 1}, {0, 2}, {0, 1, 3}, {0, 2, 4}, {0, 5}};
        TideIsland x = new TideIsland();
        for (int kind = 0; kind < 6; kind++) {
            x.land(0, kind, 4);
            int[] due = {KIND, KIND, KIND, KIND, KIND, KIND};
            for (int above : under[kind]) {
                due[above] = 4;
            }
            for (int other = 0; other < 6; other++) {
                Due.due("kind " + kind + " as " + other, x.as(0, other), due[other]);
            }
        }
        Due.outside("kind", 0, 5, BAD, v -> x.turns(0, v));
    }

    private static void top() {
        Doc.says("Terms 1", "TOP: LAND: HEIGHT. RAISED: as FIELD, and 1. WALLED: as LAND, and 2. DYKED: as WALLED, and 1.");
        int[] more = {0, 0, 2, 1, 3};
        TideIsland x = new TideIsland();
        for (int kind = 0; kind < more.length; kind++) {
            for (int height = 0; height <= 20; height += 10) {
                x.land(7, kind, height);
                Due.due("top of kind " + kind, x.told(7, 2), height + more[kind]);
            }
        }
    }

    private static void topOfStone() {
        Doc.says("Terms 1", "STONE: as LAND, and STONES.");
        TideIsland x = new TideIsland();
        for (int height = 0; height <= 20; height += 20) {
            x.land(7, 5, height);
            for (int stones : new int[] {0, 1, 20}) {
                x.sea(5, stones);
                Due.due("top with " + stones, x.told(7, 2), height + stones);
            }
        }
        x.land(7, 4, 20);
        Due.due("on stone alone", x.told(7, 2), 23);
    }

    private static void roomHeld() {
        Doc.says("Terms 1", "ROOM: LAND: what room gives, held within 0 .. 99 (without a TEXT: 10).");
        Due.due("without a text", new TideIsland().told(0, 3), 10);
        Due.due("with a text of another key", Islands.with("tide 5", "grow 5").told(0, 3), 10);
        String[] texts = {"room 0", "room 0-1", "room 1", "room 98", "room 99", "room 100", "room 9999",
            // 2147483647, and one more, which wraps
            "room 8192*8192*32-1", "room 8192*8192*32"};
        int[] due = {0, 0, 1, 98, 99, 99, 99, 99, 0};
        for (int i = 0; i < texts.length; i++) {
            Due.due(texts[i], Islands.with(texts[i]).told(0, 3), due[i]);
        }
    }

    private static void roomOfField() {
        Doc.says("Terms 1", "FIELD: as LAND, less CORN / 10 (0 at least).");
        int[][] due = {{10, 0, 10}, {10, 9, 10}, {10, 10, 9}, {10, 19, 9}, {10, 99, 1}, {9, 99, 0}, {8, 99, 0}, {3, 29, 1},
            {3, 30, 0}, {3, 39, 0}, {3, 40, 0}, {0, 0, 0}, {0, 99, 0}, {99, 99, 90}};
        for (int[] d : due) {
            TideIsland x = Islands.with("room " + d[0]);
            x.land(0, 1, 5);
            x.set(0, 0, d[1]);
            Due.due("room " + d[0] + " with corn " + d[1], x.told(0, 3), d[2]);
        }
        TideIsland x = Islands.with("room 300");
        x.land(0, 1, 5);
        x.set(0, 0, 99);
        Due.due("held to 99 as land, and then less", x.told(0, 3), 90);
        x = Islands.with("room 0-300");
        x.land(0, 1, 5);
        Due.due("held to 0 as land", x.told(0, 3), 0);
    }

    private static void roomOfRaised() {
        Doc.says("Terms 1", "RAISED: half (cut) of as FIELD.");
        int[][] due = {{10, 0, 5}, {10, 10, 4}, {9, 0, 4}, {1, 0, 0}, {0, 0, 0}, {3, 40, 0}, {99, 0, 49}, {99, 99, 45}, {2, 0, 1}};
        for (int[] d : due) {
            TideIsland x = Islands.with("room " + d[0]);
            x.land(0, 3, 5);
            x.set(0, 0, d[1]);
            Due.due("room " + d[0] + " with corn " + d[1], x.told(0, 3), d[2]);
        }
    }

    private static void roomOfWalledAndStone() {
        Doc.says("Terms 1", "WALLED: as LAND, less 4 (0 at least). STONE: 1.");
        int[][] due = {{10, 6}, {5, 1}, {4, 0}, {3, 0}, {0, 0}, {99, 95}};
        for (int[] d : due) {
            TideIsland x = Islands.with("room " + d[0]);
            x.land(0, 2, 5);
            x.land(1, 5, 5);
            x.set(0, 0, 99);
            Due.due("walled, room " + d[0], x.told(0, 3), d[1]);
            Due.due("stone, room " + d[0], x.told(1, 3), 1);
        }
    }

    private static void worth() {
        Doc.says("Terms 1", "WORTH: LAND: HEIGHT. FIELD: as LAND, and 3. RAISED: twice as FIELD. WALLED: 20 less HEIGHT. "
            + "DYKED: as WALLED, and 9. STONE: 50.");
        int[] low = {0, 3, 20, 6, 29, 50};
        int[] high = {20, 23, 0, 46, 9, 50};
        TideIsland x = new TideIsland();
        for (int kind = 0; kind < 6; kind++) {
            x.land(0, kind, 0);
            Due.due("worth of kind " + kind + " at 0", x.told(0, 4), low[kind]);
            x.land(0, kind, 20);
            Due.due("worth of kind " + kind + " at 20", x.told(0, 4), high[kind]);
        }
    }

    private static void cornGrowsOnFieldsAlone() {
        Doc.says("Terms 1", "CORN GROWS on a FIELD alone.");
        TideIsland x = new TideIsland();
        int[] dry = {50, 51, 50, 51, 50, 50};
        int[] wet = {50, 0, 50, 0, 50, 50};
        for (int kind = 0; kind < 6; kind++) {
            x.land(kind, kind, 20);
            x.land(12 + kind, kind, 0);
            x.set(kind, 0, 50);
            x.set(12 + kind, 0, 50);
        }
        x.run(1);
        for (int kind = 0; kind < 6; kind++) {
            Due.due("dry kind " + kind, x.told(kind, 5), dry[kind]);
            Due.due("wet kind " + kind, x.told(12 + kind, 5), wet[kind]);
        }
    }

    private static void asTheOneAbove() {
        Doc.says("Terms 1", "(A KIND that is not named does as the one above it.)");
        TideIsland x = new TideIsland();
        x.land(0, 1, 9);
        Due.due("top of a field is as of land", x.told(0, 2), 9);
        x.land(0, 4, 9);
        Due.due("room of a dyked one is as of a walled one", x.told(0, 3), 6);
        x.land(0, 3, 20);
        x.run(1);
        Due.due("corn grows on a raised one, as it is a field", x.told(0, 5), 1);
    }

    private static void theSea() {
        Doc.says("Terms 1", "THE SEA: LOW 0 .. 20 (2 at first), HIGH 0 .. 20 (8), SPRING 0 .. 9 (3), STORM 0 .. 9 (0), "
            + "CHANCE 0 .. 100 (20), STONES 0 .. 20 (1).");
        int[] first = {2, 8, 3, 0, 20, 1};
        int[] most = {20, 20, 9, 9, 100, 20};
        TideIsland x = new TideIsland();
        for (int what = 0; what < 6; what++) {
            int asked = what;
            Due.outside("sea " + what, 0, most[what], BAD, v -> x.sea(asked, v));
            Due.due("at first", x.sea(what, most[what]), first[what]);
            Due.due("the most", x.sea(what, 0), most[what]);
            Due.due("the least", x.sea(what, 1), 0);
        }
    }

    private static void theHour() {
        Doc.says("Terms 1", "THE HOUR is 0 at first, 9999 at most.");
        TideIsland x = new TideIsland();
        Due.due("at first", x.count(0), 0);
        Islands.goTo(x, 9998);
        Due.due("9998", x.count(0), 9998);
        x.run(2);
        Due.due("9999", x.count(0), 9999);
        x.run(99);
        Due.due("9999 at most", x.count(0), 9999);
    }

    private static void levelHeld() {
        Doc.says("Terms 1", "what tide gives, held within 0 .. 40");
        String[] texts = {"tide 0", "tide 0-1", "tide 1", "tide 39", "tide 40", "tide 41", "tide 9999",
            "tide 8192*8192*32-1", "tide 8192*8192*32"};
        int[] due = {0, 0, 1, 39, 40, 40, 40, 40, 0};
        for (int i = 0; i < texts.length; i++) {
            TideIsland x = Islands.with(texts[i]);
            x.sea(2, 9);
            x.sea(3, 9);
            Due.due(texts[i] + ", with no spring and no storm more", x.sky(0, 0), due[i]);
        }
        TideIsland x = Islands.with("tide 0-1");
        x.land(0, 0, 1);
        Due.due("a level of 0 at least covers top 0", x.sky(0, 1), 1);
    }

    private static void levelByTheHour() {
        Doc.says("Terms 1", "LEVEL t hours on (HOUR T is THE HOUR and t):");
        TideIsland x = new TideIsland();
        x.sea(2, 0);
        x.sea(4, 0);
        int[] tide = {2, 3, 4, 5, 6, 7, 8, 7, 6, 5, 4, 3};
        for (int hour = 0; hour < 24; hour++) {
            Due.due("now", x.sky(0, 0), tide[hour % 12]);
            Due.due("13 hours on", x.sky(13, 0), tide[(hour + 13) % 12]);
            x.run(1);
        }
        Islands.goTo(x, 9999);
        Due.due("hour 9999", x.sky(0, 0), tide[9999 % 12]);
        Due.due("hour 10000, though no hour goes by to it", x.sky(1, 0), tide[10000 % 12]);
        Due.due("hour 10198", x.sky(199, 0), tide[10198 % 12]);
        Tapes.text(x, "tide d-400");
        Due.due("day 416", x.sky(0, 0), 16);
        Due.due("day 424", x.sky(199, 0), 24);
    }

    private static void levelTurns() {
        Doc.says("Terms 1", "(without a TEXT: with h, the rest of T by 12, and r, h, or 12 less h, if h is above 6:");
        TideIsland x = Islands.with("grow 3", "room 7");
        x.sea(0, 0);
        x.sea(1, 6);
        x.sea(2, 0);
        int[] tide = {0, 1, 2, 3, 4, 5, 6, 5, 4, 3, 2, 1};
        for (int t = 0; t < 200; t++) {
            Due.due(t + " hours on", x.sky(t, 0), tide[t % 12]);
        }
    }

    private static void levelTogetherBySix() {
        Doc.says("Terms 1", "LOW times 6 less r and HIGH times r, together by 6,");
        TideIsland x = new TideIsland();
        int[][] due = {{20, 0, 20, 16, 13, 10, 6, 3, 0}, {0, 20, 0, 3, 6, 10, 13, 16, 20}, {5, 5, 5, 5, 5, 5, 5, 5, 5},
            {20, 20, 20, 20, 20, 20, 20, 20, 20}, {1, 2, 1, 1, 1, 1, 1, 1, 2}, {0, 1, 0, 0, 0, 0, 0, 0, 1}, {0, 0, 0, 0, 0, 0, 0, 0, 0}};
        for (int[] d : due) {
            x.sea(0, d[0]);
            x.sea(1, d[1]);
            for (int r = 0; r <= 6; r++) {
                Due.due("from " + d[0] + " to " + d[1] + " at " + r, x.sky(24 + r, 0), d[2 + r]);
            }
        }
    }

    private static void levelSpring() {
        Doc.says("Terms 1", "and SPRING more, if the rest of T / 24 by 15 is 0,");
        TideIsland x = new TideIsland();
        x.sea(0, 0);
        x.sea(1, 0);
        x.sea(2, 9);
        Due.due("hour 0", x.sky(0, 0), 9);
        Due.due("hour 23", x.sky(23, 0), 9);
        Due.due("hour 24", x.sky(24, 0), 0);
        Islands.goTo(x, 300);
        int[][] due = {{300, 0}, {336, 0}, {359, 0}, {360, 9}, {361, 9}, {383, 9}, {384, 0}, {400, 0}};
        for (int[] d : due) {
            Due.due("hour " + d[0], x.sky(d[0] - 300, 0), d[1]);
        }
        Islands.goTo(x, 9999);
        // 9999 is of day 416; of the days up to 424 the 420th is 15 times 28
        Due.due("hour 10079", x.sky(80, 0), 0);
        Due.due("hour 10080", x.sky(81, 0), 9);
        Due.due("hour 10103", x.sky(104, 0), 9);
        Due.due("hour 10104", x.sky(105, 0), 0);
    }

    private static void levelStorm() {
        Doc.says("Terms 1", "and STORM).");
        TideIsland x = new TideIsland();
        for (int storm : new int[] {0, 1, 9}) {
            x.sea(3, storm);
            Due.due("storm " + storm, x.sky(24, 0), 2 + storm);
            Due.due("storm and spring", x.sky(6, 0), 11 + storm);
        }
        x.sea(0, 20);
        x.sea(1, 20);
        x.sea(2, 9);
        Due.due("the most", x.sky(0, 0), 38);
    }

    private static void dry() {
        Doc.says("Terms 1", "A CELL is DRY t hours on, if its TOP is above LEVEL then.");
        TideIsland x = Islands.with("tide h");
        x.land(0, 0, 6);
        x.land(1, 4, 3);
        x.land(29, 5, 5);
        int[] all = {0, 1, 29};
        for (int cell : all) {
            Due.due("top 6", x.told(cell, 2), 6);
        }
        Due.due("level 5", x.sky(5, 1), 3);
        Due.due("level 6", x.sky(6, 1), 0);
        Due.due("level 7", x.sky(7, 1), 0);
        x = Islands.with("tide 0");
        Due.due("top 0 is not above level 0", x.sky(0, 1), 0);
        x.land(4, 0, 1);
        Due.due("top 1 is", x.told(4, 7), 1);
        x = Islands.with("tide 40");
        x.sea(5, 20);
        x.land(0, 5, 20);
        Due.due("the greatest top, 40, is not above level 40", x.sky(0, 1), 0);
        x = Islands.with("tide 39");
        x.sea(5, 20);
        x.land(0, 5, 20);
        Due.due("40 is above level 39", x.sky(0, 1), 1);
    }
}
