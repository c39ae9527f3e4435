/** Promises 10 to 15: sky, worst, dryFor, window, owns, richest. */
public final class HoursTest {
    private static final int BAD = TideIsland.BAD, NONE = TideIsland.NONE;

    public static void main(String[] args) {
        level();
        sizeAndParts();
        worst();
        dryFor();
        window();
        owns();
        richest();
        Due.end();
    }

    private static void level() {
        TideIsland x = new TideIsland();
        int[] tide = {2, 3, 4, 5, 6, 7, 8, 7, 6, 5, 4, 3};
        for (int t = 0; t < 200; t++) {
            Due.due("level " + t, x.sky(t, 0), tide[t % 12] + (t < 24 ? 3 : 0));
        }
        x.sea(0, 9);
        x.sea(1, 2);
        Due.due("cut towards 0", x.sky(25, 0), (9 * 5 + 2) / 6);
        x.sea(3, 9);
        Due.due("storm", x.sky(30, 0), 11);
        for (int i = 0; i < 4; i++) {
            x.run(90);
        }
        x.sea(3, 0);
        Due.due("hour 360", x.count(0), 360);
        Due.due("spring again", x.sky(0, 0), 12);
        Due.due("spring to the end of the day", x.sky(23, 0), (9 * 5 + 2) / 6 + 3);
        Due.due("and no more", x.sky(24, 0), 9);
        Due.due("sky 200", x.sky(200, 0), BAD);
        Due.due("sky -1", x.sky(-1, 0), BAD);
        Due.due("sky what 3", x.sky(0, 3), BAD);
        Due.due("sky what -1", x.sky(0, -1), BAD);
    }

    private static void sizeAndParts() {
        TideIsland x = new TideIsland();
        int[] dry = {0, 5, 6, 14, 15, 21, 29, 24};
        for (int cell : dry) {
            x.land(cell, 0, 9);
        }
        Due.due("size", x.sky(0, 1), 8);
        // 0 and 6; 5; 14, 15 and 21; 29; 24: the end of a row and the start of the next are not beside one another
        Due.due("parts", x.sky(0, 2), 5);
        x.land(20, 0, 9);
        x.land(11, 0, 9);
        Due.due("parts", x.sky(0, 2), 5);
        x.land(10, 0, 9);
        x.land(9, 0, 9);
        Due.due("joined", x.sky(0, 2), 4);
        Due.due("size at high water", x.sky(6, 1), 0);
        Due.due("parts at high water", x.sky(6, 2), 0);
        for (int cell = 0; cell < 30; cell++) {
            x.land(cell, 0, (cell / 6 + cell) % 2 == 0 ? 20 : 0);
        }
        Due.due("a board", x.sky(0, 2), 15);
        for (int cell = 0; cell < 30; cell++) {
            x.land(cell, 0, 20);
        }
        Due.due("all", x.sky(6, 1), 30);
        Due.due("all in one", x.sky(6, 2), 1);
    }

    private static void worst() {
        TideIsland x = new TideIsland();
        for (int cell = 0; cell < 30; cell++) {
            x.land(cell, 0, cell % 15);
        }
        Due.due("worst of 1", x.worst(1, 0), 0);
        Due.due("its size", x.worst(1, 1), 18);
        Due.due("worst of 6", x.worst(6, 0), 5);
        Due.due("worst of 7", x.worst(7, 0), 6);
        Due.due("the first of several", x.worst(99, 0), 6);
        Due.due("its size", x.worst(99, 1), 6);
        x.sea(3, 6);
        Due.due("the first of several", x.worst(99, 0), 3);
        Due.due("its size", x.worst(99, 1), 0);
        Due.due("worst 0", x.worst(0, 0), BAD);
        Due.due("worst 100", x.worst(100, 0), BAD);
        Due.due("worst what 2", x.worst(1, 2), BAD);
        Due.due("worst what -1", x.worst(1, -1), BAD);
    }

    private static void dryFor() {
        TideIsland x = new TideIsland();
        int[][] due = {{5, 0}, {6, 1}, {7, 2}, {10, 5}, {11, 6}, {12, 48}, {20, 48}};
        for (int[] d : due) {
            x.land(17, 0, d[0]);
            Due.due("dry for " + d[0], x.dryFor(17), d[1]);
        }
        Due.due("dry for -1", x.dryFor(-1), BAD);
        Due.due("dry for 30", x.dryFor(30), BAD);
        Tapes.text(x, "tide (d=1&h=23)*40");
        Due.due("47", x.dryFor(17), 47);
        Tapes.text(x, "tide (d=2)*40");
        Due.due("48, and not beyond", x.dryFor(17), 48);
    }

    private static void window() {
        TideIsland x = new TideIsland();
        x.land(2, 0, 6);
        Due.due("now", x.window(2, 1), 0);
        // above 5: hour 0 alone, 12 alone, then 24 .. 27 and 33 .. 39
        Due.due("of 2", x.window(2, 2), 24);
        Due.due("of 4", x.window(2, 4), 24);
        Due.due("of 5", x.window(2, 5), 33);
        Due.due("of 7", x.window(2, 7), 33);
        Due.due("of 8", x.window(2, 8), NONE);
        Tapes.text(x, "tide (d<4|d=4&h<3)*40");
        Due.due("the last start", x.window(2, 24), 99);
        Tapes.text(x, "tide (d<4|d=4&h<4)*40");
        Due.due("one too late", x.window(2, 1), NONE);
        Tapes.text(x, "tide (d=4&h=2|d=5&h=3)*40");
        Due.due("24 in a row", x.window(2, 24), 0);
        Tapes.text(x, "tide (d<4|d=4&h<3|d=5&h=2)*40");
        Due.due("broken in the last hour", x.window(2, 24), NONE);
        Due.due("of 23", x.window(2, 23), 99);
        Due.due("of 0", x.window(2, 0), BAD);
        Due.due("of 25", x.window(2, 25), BAD);
        Due.due("cell -1", x.window(-1, 1), BAD);
        Due.due("cell 30", x.window(30, 1), BAD);
    }

    private static void owns() {
        TideIsland x = new TideIsland();
        x.land(0, 0, 6);
        x.land(1, 0, 9);
        x.land(2, 0, 20);
        for (int cell = 0; cell < 4; cell++) {
            x.set(cell, 1, 7);
        }
        x.land(9, 0, 20);
        Due.due("owns", x.owns(7, 0), 3);
        Due.due("owns", x.owns(7, 2), 2);
        Due.due("owns", x.owns(7, 4), 1);
        Due.due("owns", x.owns(7, 199), 2);
        Due.due("owns nothing", x.owns(0, 0), 0);
        Due.due("owner -1", x.owns(-1, 0), BAD);
        Due.due("owner 8", x.owns(8, 0), BAD);
        Due.due("owner none", x.owns(NONE, 0), BAD);
        Due.due("t 200", x.owns(0, 200), BAD);
        Due.due("t -1", x.owns(0, -1), BAD);
    }

    private static void richest() {
        TideIsland x = new TideIsland();
        Due.due("nobody has anything", x.richest(0), 0);
        Due.due("nothing", x.richest(1), 0);
        x.land(0, 0, 20);
        x.set(0, 1, 6);
        Due.due("richest", x.richest(0), 6);
        Due.due("24 hours", x.richest(1), 24);
        x.land(29, 0, 12);
        x.set(29, 1, 3);
        Due.due("of several the least", x.richest(0), 3);
        x.land(1, 0, 6);
        x.set(1, 1, 6);
        Due.due("two hours more", x.richest(1), 26);
        Due.due("richest", x.richest(0), 6);
        Due.due("what 2", x.richest(2), BAD);
        Due.due("what -1", x.richest(-1), BAD);
    }
}
