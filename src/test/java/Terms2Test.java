/** Sentence by sentence: part 2 of the terms, the island by hours, houses and owners. */
public final class Terms2Test {
    private static final int BAD = TideIsland.BAD, FULL = TideIsland.FULL, NONE = TideIsland.NONE;

    public static void main(String[] args) {
        size();
        parts();
        worst();
        worstOfSeveral();
        dryFor();
        dryForNotNow();
        window();
        windowOfMany();
        housesFull();
        many();
        nowhere();
        peak();
        peakOfSeveral();
        cut();
        cutOnACell();
        cutPeakNotDry();
        lack();
        lackOfAllHouses();
        lackAtLeast0();
        going();
        goingDryInEachHour();
        goingLeastHours();
        has();
        richest();
        richestOfSeveral();
        Doc.allSaid("Terms 2");
        Due.end();
    }

    private static void size() {
        Doc.says("Terms 2", "SIZE: how many CELLS are DRY.");
        TideIsland x = new TideIsland();
        Due.due("none", x.sky(0, 1), 0);
        for (int cell = 0; cell < 30; cell++) {
            x.land(cell, cell % 6, 20);
            Due.due("size", x.sky(0, 1), cell + 1);
        }
    }

    private static void parts() {
        Doc.says("Terms 2", "PARTS: of how many parts (DRY CELLS BESIDE one another are of one).");
        Due.due("none", new TideIsland().sky(0, 2), 0);
        Due.due("one cell", Islands.dry(17).sky(0, 2), 1);
        Due.due("all cells", Islands.flat(0, 20).sky(0, 2), 1);
        Due.due("a corner to a corner", Islands.dry(0, 7, 14, 21, 28).sky(0, 2), 5);
        Due.due("the end of a row and the start of the next", Islands.dry(5, 6).sky(0, 2), 2);
        Due.due("a board", Islands.dry(0, 2, 4, 7, 9, 11, 12, 14, 16, 19, 21, 23, 24, 26, 28).sky(0, 2), 15);
        Due.due("a row that winds", Islands.dry(0, 1, 2, 3, 4, 5, 11, 17, 16, 15, 14, 13, 12, 18, 24, 25, 26, 27, 28, 29).sky(0, 2), 1);
        Due.due("a ring, and what is in it", Islands.dry(0, 1, 2, 6, 8, 12, 13, 14, 7).sky(0, 2), 1);
        Due.due("a ring, and one apart in it",
            Islands.dry(0, 1, 2, 3, 4, 6, 10, 12, 14, 16, 18, 22, 24, 25, 26, 27, 28).sky(0, 2), 2);
        Due.due("two arms that meet last", Islands.dry(0, 6, 12, 18, 24, 2, 8, 14, 20, 26, 25).sky(0, 2), 1);
    }

    private static void worst() {
        Doc.says("Terms 2", "WORST of n hours: of 0 .. n - 1 hours on that with the least SIZE;");
        TideIsland x = Islands.with("tide (h=5)*5+(d=4&h=2)*9");
        x.land(0, 0, 7);
        x.land(1, 0, 3);
        Due.due("of 1", x.worst(1, 0), 0);
        Due.due("of 5", x.worst(5, 0), 0);
        Due.due("of 5, size", x.worst(5, 1), 2);
        Due.due("of 6", x.worst(6, 0), 5);
        Due.due("of 6, size", x.worst(6, 1), 1);
        Due.due("of 98", x.worst(98, 0), 5);
        Due.due("of 99", x.worst(99, 0), 98);
        Due.due("of 99, size", x.worst(99, 1), 0);
    }

    private static void worstOfSeveral() {
        Doc.says("Terms 2", "of several the first.");
        TideIsland x = Islands.with("tide (h=3|h=9)*5");
        Due.due("none is ever dry", x.worst(99, 0), 0);
        x.land(0, 0, 4);
        Due.due("3 and 9", x.worst(99, 0), 3);
        Due.due("0, 1 and 2", x.worst(3, 0), 0);
        Tapes.text(x, "tide 3");
        Due.due("one is always dry", x.worst(99, 0), 0);
        Due.due("its size", x.worst(99, 1), 1);
    }

    private static void dryFor() {
        Doc.says("Terms 2", "DRY FOR: how many hours on (0 .. 48) a CELL is DRY from now on, one behind the other");
        String[] texts = {"tide 1", "tide (h=1)*9", "tide (h=1)*9*!d", "tide (d=1)*9", "tide (d=1&h=22)*9", "tide (d=1&h=23)*9",
            "tide (d=2)*9", "tide (d=2&h=1)*9", "tide (h>4)*9"};
        int[] due = {48, 1, 1, 24, 46, 47, 48, 48, 5};
        for (int i = 0; i < texts.length; i++) {
            TideIsland x = Islands.with(texts[i]);
            x.land(29, 0, 9);
            Due.due(texts[i], x.dryFor(29), due[i]);
        }
    }

    private static void dryForNotNow() {
        Doc.says("Terms 2", "(0: it is not now).");
        TideIsland x = Islands.with("tide (h=0)*9");
        x.land(0, 0, 9);
        Due.due("not now, but an hour on", x.dryFor(0), 0);
        x.run(1);
        Due.due("now", x.dryFor(0), 23);
        Due.due("never", x.dryFor(1), 0);
    }

    private static void window() {
        Doc.says("Terms 2", "WINDOW of n: the least t 0 .. 99");
        String[] texts = {"tide 1", "tide (h=0)*9", "tide (d<4|d=4&h<2)*9", "tide (d<4|d=4&h<3)*9", "tide (d<4|d=4&h<4)*9", "tide 9"};
        int[] due = {0, 1, 98, 99, NONE, NONE};
        for (int i = 0; i < texts.length; i++) {
            TideIsland x = Islands.with(texts[i]);
            x.land(0, 0, 9);
            Due.due(texts[i], x.window(0, 1), due[i]);
            Due.due(texts[i] + ", two", x.window(0, 2), due[i]);
        }
    }

    private static void windowOfMany() {
        Doc.says("Terms 2", "so that a CELL is DRY t, t + 1, .. hours on, n of them.");
        TideIsland x = Islands.with("tide (h=5|h=8|h=12)*9");
        x.land(0, 0, 9);
        int[][] due = {{1, 0}, {5, 0}, {6, 13}, {16, 13}, {17, NONE}, {24, NONE}};
        for (int[] d : due) {
            Due.due("of " + d[0], x.window(0, d[0]), d[1]);
        }
        // from hour 99 on: 122 is the last of 24, 123 is none of them
        Tapes.text(x, "tide (d<4|d=4&h<3|d=5&h=3)*9");
        Due.due("24 from hour 99 on", x.window(0, 24), 99);
        Tapes.text(x, "tide (d<4|d=4&h<3|d=5&h=2)*9");
        Due.due("23 from hour 99 on", x.window(0, 23), 99);
        Due.due("not 24", x.window(0, 24), NONE);
    }

    private static void housesFull() {
        Doc.says("Terms 2", "HOUSES, 8 at most, numbered from 0,");
        TideIsland x = new TideIsland();
        for (int house = 0; house < 8; house++) {
            Due.due("there is none yet", x.houseTold(house, 0), BAD);
            Due.due("its number", x.house(house + 1), house);
            Due.due("it is there", x.houseTold(house, 0), house + 1);
        }
        Due.due("a ninth", x.house(1), FULL);
        Due.due("8", x.count(1), 8);
    }

    private static void many() {
        Doc.says("Terms 2", "each of MANY 1 .. 99,");
        TideIsland x = new TideIsland();
        Due.due("99", x.house(99), 0);
        Due.due("1", x.house(1), 1);
        Due.due("99", x.houseTold(0, 0), 99);
        Due.due("1", x.houseTold(1, 0), 1);
        Due.outside("many", 1, 99, BAD, x::house);
        Due.due("NONE", x.house(NONE), BAD);
        Due.due("2 houses", x.count(1), 2);
    }

    private static void nowhere() {
        Doc.says("Terms 2", "on a CELL or nowhere (at first).");
        TideIsland x = new TideIsland();
        x.house(5);
        Due.due("nowhere", x.houseTold(0, 1), NONE);
        x.settle(0, 0);
        Due.due("on cell 0", x.houseTold(0, 1), 0);
        x.settle(0, 29);
        Due.due("on cell 29", x.houseTold(0, 1), 29);
        x.keep();
        x.house(6);
        x.settle(1, 4);
        x.back();
        x.house(6);
        Due.due("a new one with an old number", x.houseTold(1, 1), NONE);
    }

    private static void peak() {
        Doc.says("Terms 2", "PEAK: the CELL with the greatest TOP;");
        TideIsland x = new TideIsland();
        x.land(29, 0, 1);
        Due.due("the last cell", x.count(5), 29);
        x.land(0, 0, 2);
        Due.due("the first cell", x.count(5), 0);
        x.land(14, 4, 0);
        Due.due("not by height", x.count(5), 14);
        x.land(15, 5, 0);
        x.sea(5, 4);
        Due.due("by stones", x.count(5), 15);
    }

    private static void peakOfSeveral() {
        Doc.says("Terms 2", "PEAK: the CELL with the greatest TOP; of several the least.");
        TideIsland x = new TideIsland();
        Due.due("all are alike", x.count(5), 0);
        x.land(29, 4, 6);
        x.land(11, 2, 7);
        x.land(12, 0, 9);
        Due.due("tops of 9", x.count(5), 11);
        x.land(10, 3, 8);
        Due.due("one more", x.count(5), 10);
    }

    private static void cut() {
        Doc.says("Terms 2", "CUT: HOUSES on a CELL that is DRY then, and not of the part of the PEAK");
        TideIsland x = Islands.with("tide h");
        int[] cells = {8, 9, 10, 16, 2, 15, 29, 5};
        // cells 8 and 9, then 10 and 16, are one part as long as all are dry; 29 and 5 are apart
        int[] heights = {20, 3, 9, 9, 0, 9, 9, 1};
        for (int i = 0; i < cells.length; i++) {
            x.land(cells[i], 0, heights[i]);
            x.house(1);
            x.settle(i, cells[i]);
        }
        x.land(15, 0, 0);
        Due.due("0 hours on: houses 6 and 7", x.cut(0), 64 + 128);
        Due.due("1 hour on: 5 is not dry", x.cut(1), 64);
        Due.due("3 hours on: 9 is not dry", x.cut(3), 4 + 8 + 64);
        Due.due("9 hours on: the peak alone is dry", x.cut(9), 0);
        x.settle(6, NONE);
        Due.due("a house that is nowhere", x.cut(3), 4 + 8);
        x.settle(6, 28);
        Due.due("a house that is not dry", x.cut(3), 4 + 8);
    }

    private static void cutOnACell() {
        Doc.says("Terms 2", "CUT: HOUSES on a CELL that is DRY then,");
        for (int colour = 0; colour < 2; colour++) {
            TideIsland x = new TideIsland();
            for (int cell = 0; cell < 30; cell++) {
                x.land(cell, 0, (cell / 6 + cell) % 2 == colour ? 20 : 0);
            }
            x.house(1);
            Due.due("half of the cells are apart", x.sky(0, 2), 15);
            Due.due("a house that is nowhere is not cut", x.cut(0), 0);
            for (int cell = 0; cell < 30; cell++) {
                x.settle(0, cell);
                boolean dry = (cell / 6 + cell) % 2 == colour;
                Due.due("on cell " + cell, x.cut(0), dry && cell != x.count(5) ? 1 : 0);
            }
        }
    }

    private static void cutPeakNotDry() {
        Doc.says("Terms 2", "(if that is DRY; else all of them).");
        TideIsland x = Islands.with("tide h");
        x.land(3, 0, 9);
        x.land(20, 0, 9);
        x.house(1);
        x.house(1);
        x.settle(0, 3);
        x.settle(1, 20);
        Due.due("the peak, cell 3, is dry", x.cut(8), 2);
        Due.due("the peak is not dry: no house is on a cell that is", x.cut(9), 0);
    }

    private static void lack() {
        Doc.says("Terms 2", "LACK: MANY of all HOUSES, together, less ROOM of all CELLS that are DRY then, together");
        TideIsland x = Islands.with("tide h", "room 20");
        Due.due("no house", x.lack(0), 0);
        x.house(99);
        x.house(99);
        x.settle(0, 0);
        Due.due("no cell is dry", x.lack(0), 198);
        x.land(0, 0, 3);
        x.land(29, 2, 7);
        x.land(12, 5, 1);
        x.land(6, 1, 5);
        x.set(6, 0, 55);
        Due.due("20, 16, 1 and 15", x.lack(0), 198 - 52);
        Due.due("20, 16, 1 and 15, as stone is 1 more", x.lack(1), 198 - 52);
        Due.due("20, 16 and 15", x.lack(2), 198 - 51);
        Due.due("16 and 15", x.lack(3), 198 - 31);
        Due.due("16", x.lack(5), 198 - 16);
        Due.due("none", x.lack(9), 198);
    }

    private static void lackOfAllHouses() {
        Doc.says("Terms 2", "LACK: MANY of all HOUSES, together,");
        TideIsland x = new TideIsland();
        x.keep();
        for (int house = 0; house < 8; house++) {
            x.house(99);
            Due.due("all of them", x.lack(0), 99 * (house + 1));
        }
        x.back();
        Due.due("none of those that are gone", x.lack(0), 0);
        x.house(7);
        Due.due("one", x.lack(0), 7);
    }

    private static void lackAtLeast0() {
        Doc.says("Terms 2", "less ROOM of all CELLS that are DRY then, together (0 at least).");
        int[][] due = {{19, 1, 0}, {20, 1, 0}, {21, 1, 1}, {99, 1, 79}, {1, 1, 0}, {1, 0, 1}};
        for (int[] d : due) {
            TideIsland x = Islands.with("tide 1", "room 20");
            x.house(d[0]);
            x.land(0, 0, 2 * d[1]);
            Due.due(d[0] + " with " + d[1] + " cells of 20", x.lack(0), d[2]);
        }
    }

    private static void going() {
        Doc.says("Terms 2", "GOING of a HOUSE to a CELL: hour by hour it stays, or comes to one BESIDE;");
        TideIsland x = Islands.flat(0, 20);
        x.house(1);
        for (int from : new int[] {0, 5, 13, 24, 29}) {
            x.settle(0, from);
            for (int to = 0; to < 30; to++) {
                Due.due("from " + from + " to " + to, x.going(0, to), Math.abs(from / 6 - to / 6) + Math.abs(from % 6 - to % 6));
            }
        }
        x = Islands.dry(0, 1, 2, 3, 4, 5, 11, 17, 16, 15, 14, 13, 12, 18, 24, 25, 26, 27, 28, 29);
        x.house(1);
        x.settle(0, 0);
        Due.due("a way that winds", x.going(0, 29), 19);
        Due.due("no way", x.going(0, 21), NONE);
        x = Islands.with("tide (h<3)*9");
        x.land(0, 0, 20);
        x.land(1, 0, 5);
        x.land(2, 0, 20);
        x.house(1);
        x.settle(0, 0);
        Due.due("stays, and comes in the fourth hour", x.going(0, 1), 3);
        Due.due("and goes on", x.going(0, 2), 4);
    }

    private static void goingDryInEachHour() {
        Doc.says("Terms 2", "where it is must be DRY in each hour (0 hours on, too):");
        TideIsland x = Islands.with("tide !h*9");
        x.land(0, 0, 5);
        x.land(1, 0, 20);
        x.house(1);
        x.settle(0, 0);
        Due.due("its cell is not dry 0 hours on", x.going(0, 0), NONE);
        Due.due("nor can it go", x.going(0, 1), NONE);
        Tapes.text(x, "tide (h=1)*9");
        Due.due("dry 0 hours on", x.going(0, 0), 0);
        Due.due("and gone in the hour that floods it", x.going(0, 1), 1);
        x.land(1, 0, 5);
        Due.due("both are flooded", x.going(0, 1), NONE);
        Tapes.text(x, "tide (h=2)*9");
        x.land(2, 0, 5);
        x.land(3, 0, 20);
        Due.due("there before the flood", x.going(0, 1), 1);
        Due.due("flooded on its way", x.going(0, 2), NONE);
        Due.due("and not beyond it", x.going(0, 3), NONE);
        x.land(6, 0, 20);
        Due.due("it waits on high land", x.going(0, 2), 5);
    }

    private static void goingLeastHours() {
        Doc.says("Terms 2", "the least hours (0 .. 48) by which it is there.");
        TideIsland x = new TideIsland();
        x.land(0, 0, 20);
        x.land(1, 0, 5);
        x.land(2, 0, 20);
        x.house(1);
        x.settle(0, 0);
        String[] texts = {"tide 1", "tide (d<1)*9", "tide (d<2&!(d=1&h=23))*9", "tide (d<2)*9", "tide (d<2|d=2&h=0)*9"};
        int[] beside = {1, 24, 47, 48, NONE};
        int[] beyond = {2, 25, 48, NONE, NONE};
        for (int i = 0; i < texts.length; i++) {
            Due.due("text", Tapes.text(x, texts[i]), i);
            Due.due(texts[i] + ", where it is", x.going(0, 0), 0);
            Due.due(texts[i] + ", beside", x.going(0, 1), beside[i]);
            Due.due(texts[i] + ", beyond", x.going(0, 2), beyond[i]);
        }
        Tapes.text(x, "tide (d<2&!(d=1&h=23))*9");
        x.land(1, 0, 20);
        x.land(2, 0, 5);
        Due.due("the last hours", x.going(0, 2), 47);
    }

    private static void has() {
        Doc.says("Terms 2", "HAS of an OWNER: how many of its CELLS are DRY.");
        TideIsland x = Islands.with("tide h");
        for (int cell = 0; cell < 30; cell++) {
            x.land(cell, 0, cell % 6);
            x.set(cell, 1, cell < 24 ? 7 : cell < 29 ? 0 : NONE);
        }
        Due.due("owner 7", x.owns(7, 0), 20);
        Due.due("owner 0", x.owns(0, 0), 4);
        Due.due("owner 1", x.owns(1, 0), 0);
        Due.due("owner 7, 4 hours on", x.owns(7, 4), 4);
        Due.due("owner 7, 5 hours on", x.owns(7, 5), 0);
    }

    private static void richest() {
        Doc.says("Terms 2", "RICHEST: the OWNER with the most HAS of the 24 hours on from now (0 .. 23), together;");
        String[] texts = {"tide 9-(d=0&h=0)*5", "tide 9-(d=0&h=23)*5", "tide 9-(d=1&h=0)*5", "tide 9", "tide 1"};
        int[] most = {1, 1, 0, 0, 24};
        for (int i = 0; i < texts.length; i++) {
            TideIsland x = Islands.with(texts[i]);
            x.land(29, 0, 9);
            x.set(29, 1, 7);
            Due.due(texts[i], x.richest(0), most[i] > 0 ? 7 : 0);
            Due.due(texts[i] + ", together", x.richest(1), most[i]);
        }
        TideIsland x = Islands.with("tide h");
        x.land(0, 0, 20);
        x.set(0, 1, 6);
        for (int cell = 1; cell < 4; cell++) {
            x.land(cell, 0, 7);
            x.set(cell, 1, 5);
        }
        Due.due("three cells for 7 hours are more than one for 20", x.richest(0), 5);
        Due.due("together", x.richest(1), 21);
        x.land(1, 0, 5);
        Due.due("19 are less than 20", x.richest(0), 6);
        Due.due("together", x.richest(1), 20);
        x.land(9, 0, 20);
        x.land(10, 0, 20);
        Due.due("what nobody owns makes nobody rich", x.richest(1), 20);
    }

    private static void richestOfSeveral() {
        Doc.says("Terms 2", "RICHEST: the OWNER with the most HAS of the 24 hours on from now (0 .. 23), together; of several the least.");
        TideIsland x = Islands.with("tide h");
        Due.due("none has anything", x.richest(0), 0);
        x.land(0, 0, 8);
        x.set(0, 1, 7);
        x.land(1, 0, 5);
        x.land(2, 0, 3);
        x.set(1, 1, 4);
        x.set(2, 1, 4);
        Due.due("4 and 7 have 8", x.richest(0), 4);
        x.land(3, 0, 8);
        x.set(3, 1, 5);
        Due.due("4, 5 and 7", x.richest(0), 4);
        x.set(2, 1, NONE);
        Due.due("5 and 7", x.richest(0), 5);
    }
}
