/** Sentence by sentence: part 3 of the terms, an hour that goes by, and draws. */
public final class Terms3Test {
    private static final int NONE = TideIsland.NONE;

    public static void main(String[] args) {
        grows();
        growsHeld();
        at99();
        wet();
        flight();
        lost();
        drawBy12();
        stormMost();
        stormByChance();
        stormLeast();
        hour();
        inOrder();
        zAtFirst();
        drawWraps();
        drawIsUnsigned();
        drawnIsland();
        drawnOwner();
        drawnCorn();
        Doc.allSaid("Terms 3");
        Due.end();
    }

    /** What a draw makes of z, worked out without an int that wraps. */
    private static int next(int z) {
        return (int) (((z & 0xFFFFFFFFL) * 1103515245L + 12345L) % 4294967296L);
    }

    private static int given(int z) {
        return (int) ((z & 0xFFFFFFFFL) / 256);
    }

    /** A z whose next draw gives a rest by 100. */
    private static int seedFor(int rest) {
        int z = 5;
        while (given(next(z)) % 100 != rest) {
            z++;
        }
        return z;
    }

    private static void grows() {
        Doc.says("Terms 3", "AN HOUR: (1) on each FIELD that is DRY now CORN is more by what grow gives,");
        TideIsland x = Islands.with("grow c+h/10", "tide 5");
        for (int cell = 0; cell < 30; cell++) {
            x.land(cell, cell % 2 == 0 ? 1 : 3, cell % 3 == 0 ? 5 : 20);
            x.set(cell, 0, cell % 5);
        }
        x.run(1);
        for (int cell = 0; cell < 30; cell++) {
            int height = cell % 3 == 0 ? 5 : 20;
            int top = height + cell % 2;
            Due.due("corn of " + cell, x.told(cell, 5), top > 5 ? 2 * (cell % 5) + height / 10 : 0);
        }
    }

    private static void growsHeld() {
        Doc.says("Terms 3", "held within 0 .. 9 (without a TEXT: 1),");
        String[] texts = {"tide 3", "grow 0", "grow 0-1", "grow 1", "grow 8", "grow 9", "grow 10", "grow 9999",
            "grow 8192*8192*32-1", "grow 8192*8192*32"};
        int[] more = {1, 0, 0, 1, 8, 9, 9, 9, 9, 0};
        for (int i = 0; i < texts.length; i++) {
            TideIsland x = Islands.with(texts[i]);
            x.land(0, 1, 20);
            x.set(0, 0, 40);
            x.run(1);
            Due.due(texts[i], x.told(0, 5), 40 + more[i]);
        }
    }

    private static void at99() {
        Doc.says("Terms 3", "99 at most;");
        int[][] due = {{89, 9, 98}, {90, 9, 99}, {91, 9, 99}, {98, 1, 99}, {99, 1, 99}, {99, 9, 99}, {99, 0, 99}};
        for (int[] d : due) {
            TideIsland x = Islands.with("grow " + d[1]);
            x.land(0, 1, 20);
            x.set(0, 0, d[0]);
            x.run(1);
            Due.due(d[0] + " and " + d[1], x.told(0, 5), d[2]);
        }
    }

    private static void wet() {
        Doc.says("Terms 3", "on one that is not it is 0.");
        TideIsland x = Islands.with("tide 7", "grow 9");
        int[][] land = {{1, 7, 0}, {1, 8, 59}, {3, 6, 0}, {3, 7, 59}, {0, 7, 50}, {2, 5, 50}, {5, 0, 50}};
        for (int cell = 0; cell < land.length; cell++) {
            x.land(cell, land[cell][0], land[cell][1]);
            x.set(cell, 0, 50);
        }
        x.run(1);
        for (int cell = 0; cell < land.length; cell++) {
            Due.due("kind " + land[cell][0] + ", height " + land[cell][1], x.told(cell, 5), land[cell][2]);
        }
    }

    private static void flight() {
        Doc.says("Terms 3", "(2) HOUSES by numbers, on a CELL that is not DRY now: it comes to the first CELL BESIDE that is;");
        TideIsland x = Islands.dry(20, 15, 8, 13, 29);
        int[] cells = {14, 14, 29, 28, 23, 9};
        for (int house = 0; house < cells.length; house++) {
            x.house(1 + house);
            x.settle(house, cells[house]);
        }
        Due.due("none is lost", x.run(1), 0);
        int[] due = {20, 20, 29, 29, 29, 15};
        for (int house = 0; house < due.length; house++) {
            Due.due("house " + house, x.houseTold(house, 1), due[house]);
        }
        x = new TideIsland();
        x.land(11, 0, 5);
        x.land(4, 0, 6);
        x.house(1);
        x.settle(0, 5);
        x.run(1);
        Due.due("level 5: cell 11 is not dry, cell 4 is", x.houseTold(0, 1), 4);
    }

    private static void lost() {
        Doc.says("Terms 3", "if there is none, it is nowhere, and LOST (0 at first) is MANY more.");
        TideIsland x = Islands.dry(14);
        Due.due("at first", x.count(3), 0);
        x.house(99);
        x.house(1);
        x.house(50);
        x.settle(0, 0);
        x.settle(1, 7);
        x.settle(2, 14);
        Due.due("lost", x.run(1), 100);
        Due.due("nowhere", x.houseTold(0, 1), NONE);
        Due.due("nowhere", x.houseTold(1, 1), NONE);
        Due.due("on dry land", x.houseTold(2, 1), 14);
        Due.due("one that is nowhere is not lost again", x.run(1), 100);
        x.settle(0, 29);
        Due.due("one that is settled anew is", x.run(1), 199);
        Due.due("in all", x.count(3), 199);
    }

    private static void drawBy12() {
        Doc.says("Terms 3", "(3) If the rest of THE HOUR by 12 is 0, a draw:");
        TideIsland x = new TideIsland();
        int z = 1;
        for (int hour = 0; hour < 40; hour++) {
            x.run(1);
            z = hour % 12 == 0 ? next(z) : z;
            Due.due("z behind hour " + hour, x.count(9), z);
        }
    }

    private static void stormMost() {
        Doc.says("Terms 3", "STORM is 1 more (9 at most),");
        for (int storm = 0; storm <= 9; storm++) {
            TideIsland x = new TideIsland();
            x.sea(3, storm);
            x.sea(4, 100);
            x.run(1);
            Due.due("from " + storm, x.count(4), Math.min(9, storm + 1));
        }
    }

    private static void stormByChance() {
        Doc.says("Terms 3", "if its rest by 100 is below CHANCE,");
        int[][] due = {{0, 0, 3}, {0, 1, 5}, {1, 1, 3}, {1, 2, 5}, {50, 50, 3}, {50, 51, 5}, {98, 99, 5}, {99, 99, 3}, {99, 100, 5}};
        for (int[] d : due) {
            TideIsland x = new TideIsland();
            x.seed(seedFor(d[0]));
            x.sea(3, 4);
            x.sea(4, d[1]);
            x.run(1);
            Due.due("rest " + d[0] + ", chance " + d[1], x.count(4), d[2]);
        }
    }

    private static void stormLeast() {
        Doc.says("Terms 3", "else 1 less (0 at least).");
        for (int storm = 0; storm <= 9; storm++) {
            TideIsland x = new TideIsland();
            x.sea(3, storm);
            x.sea(4, 0);
            x.run(1);
            Due.due("from " + storm, x.count(4), Math.max(0, storm - 1));
        }
    }

    private static void hour() {
        Doc.says("Terms 3", "(4) THE HOUR is 1 more.");
        TideIsland x = new TideIsland();
        for (int hour = 1; hour < 30; hour++) {
            x.run(1);
            Due.due("the hour", x.count(0), hour);
        }
    }

    private static void inOrder() {
        Doc.says("Terms 3", "(3) If the rest of THE HOUR by 12 is 0, a draw: STORM is 1 more");
        TideIsland x = Islands.with("tide h+s*5");
        x.sea(4, 100);
        x.land(0, 1, 1);
        x.set(0, 0, 30);
        x.house(8);
        x.settle(0, 0);
        Due.due("the hour's storm comes behind its corn and houses", x.run(1), 0);
        Due.due("corn", x.told(0, 5), 31);
        Due.due("the next hour has it", x.run(1), 8);
        Due.due("corn", x.told(0, 5), 0);
    }

    private static void zAtFirst() {
        Doc.says("Terms 3", "z is told (1 at first).");
        TideIsland x = new TideIsland();
        Due.due("told", x.count(9), 1);
        Due.due("at first", x.seed(7), 1);
        Due.due("told", x.count(9), 7);
    }

    private static void drawWraps() {
        Doc.says("Terms 3", "A draw: z becomes z * 1103515245 + 12345 (an int);");
        int[] seeds = {0, 1, -1, 2, 12345, Integer.MAX_VALUE, Integer.MIN_VALUE, 1103515245, NONE};
        for (int seed : seeds) {
            TideIsland x = new TideIsland();
            x.seed(seed);
            x.run(1);
            Due.due("z behind " + seed, x.count(9), next(seed));
        }
    }

    private static void drawIsUnsigned() {
        Doc.says("Terms 3", "it gives z >>> 8.");
        int below0 = 0;
        for (int seed = 2; seed < 40; seed++) {
            TideIsland x = new TideIsland();
            x.seed(seed);
            x.sea(3, 4);
            x.sea(4, 50);
            x.run(1);
            below0 += next(seed) < 0 ? 1 : 0;
            Due.due("storm with " + seed, x.count(4), given(next(seed)) % 100 < 50 ? 5 : 3);
        }
        Due.due("some z are below 0", below0 > 5 ? 1 : 0, 1);
    }

    private static void drawn(int seed) {
        TideIsland x = new TideIsland();
        x.seed(seed);
        x.deal();
        int z = seed;
        for (int cell = 0; cell < 30; cell++) {
            z = next(z);
            Due.due("kind of " + cell, x.told(cell, 0), given(z) % 6);
            z = next(z);
            Due.due("height of " + cell, x.told(cell, 1), given(z) % 21);
            z = next(z);
        }
        Due.due("z behind it", x.count(9), z);
    }

    private static void drawnIsland() {
        Doc.says("Terms 3", "AN ISLAND that is drawn: for each CELL, from 0 on, KIND the rest of a draw by 6, HEIGHT that of one more by 21,");
        drawn(1);
        drawn(-77);
        drawn(Integer.MIN_VALUE);
        drawn(Integer.MAX_VALUE);
    }

    private static void drawnOwner() {
        Doc.says("Terms 3", "OWNER that of one more by 9 (8: none);");
        int none = 0;
        int zero = 0;
        int seven = 0;
        for (int seed = 0; seed < 5; seed++) {
            TideIsland x = new TideIsland();
            for (int cell = 0; cell < 30; cell++) {
                x.set(cell, 1, 5);
            }
            x.seed(seed);
            x.deal();
            int z = seed;
            for (int cell = 0; cell < 30; cell++) {
                z = next(next(next(z)));
                int owner = given(z) % 9;
                none += owner == 8 ? 1 : 0;
                zero += owner == 0 ? 1 : 0;
                seven += owner == 7 ? 1 : 0;
                Due.due("owner of " + cell, x.told(cell, 6), owner == 8 ? NONE : owner);
            }
        }
        Due.due("owners 0, 7 and none are among them", none > 0 && zero > 0 && seven > 0 ? 1 : 0, 1);
    }

    private static void drawnCorn() {
        Doc.says("Terms 3", "CORN 0.");
        TideIsland x = new TideIsland();
        for (int cell = 0; cell < 30; cell++) {
            x.set(cell, 0, 99 - cell);
        }
        x.deal();
        Due.due("all corn", x.count(2), 0);
        for (int cell = 0; cell < 30; cell++) {
            Due.due("corn of " + cell, x.told(cell, 5), 0);
        }
    }
}
