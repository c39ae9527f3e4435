/** Sentence by sentence: promises 10 to 15, sky, worst, dryFor, window, owns, richest. */
public final class Promises10To15Test {
    private static final int BAD = TideIsland.BAD, NONE = TideIsland.NONE;

    public static void main(String[] args) {
        skyHours();
        sky();
        skyBad();
        worstHours();
        worst();
        worstBad();
        dryFor();
        dryForBad();
        window();
        windowBad();
        windowNone();
        owns();
        ownsBad();
        richest();
        richestBad();
        for (int i = 10; i <= 15; i++) {
            Doc.allSaid("Promise " + i);
        }
        Due.end();
    }

    private static void skyHours() {
        Doc.says("Promise 10", "t (0 .. 199) hours on:");
        TideIsland x = Islands.with("tide (d=8&h=7)*30+(d=0&h=0)*20");
        x.land(0, 0, 10);
        Due.due("level 0 hours on", x.sky(0, 0), 20);
        Due.due("level 1 hour on", x.sky(1, 0), 0);
        Due.due("level 198 hours on", x.sky(198, 0), 0);
        Due.due("level 199 hours on", x.sky(199, 0), 30);
        Due.due("size 0 hours on", x.sky(0, 1), 0);
        Due.due("size 198 hours on", x.sky(198, 1), 1);
        Due.due("size 199 hours on", x.sky(199, 1), 0);
        Due.due("parts 0 hours on", x.sky(0, 2), 0);
        Due.due("parts 198 hours on", x.sky(198, 2), 1);
        Due.due("parts 199 hours on", x.sky(199, 2), 0);
        Due.due("no hour has gone by", x.count(0), 0);
    }

    private static void sky() {
        Doc.says("Promise 10", "what 0 LEVEL, 1 SIZE, 2 PARTS.");
        TideIsland x = Islands.dry(0, 1, 29, 27, 21);
        Due.due("level", x.sky(0, 0), 5);
        Due.due("size", x.sky(0, 1), 5);
        Due.due("parts", x.sky(0, 2), 3);
    }

    private static void skyBad() {
        Doc.says("Promise 10", "BAD.");
        TideIsland x = new TideIsland();
        for (int what = 0; what < 3; what++) {
            int asked = what;
            Due.outside("t", 0, 199, BAD, v -> x.sky(v, asked));
            Due.due("t NONE", x.sky(NONE, what), BAD);
        }
        Due.outside("what", 0, 2, BAD, v -> x.sky(0, v));
    }

    private static void worstHours() {
        Doc.says("Promise 11", "WORST of n (1 .. 99) hours:");
        TideIsland x = Islands.with("tide (d*24+h)/3");
        for (int cell = 0; cell < 20; cell++) {
            x.land(cell, 4, cell);
        }
        x.sea(5, 20);
        for (int cell = 20; cell < 30; cell++) {
            x.land(cell, 5, cell - 9);
        }
        // a cell less each third hour, from hour 9 on: a top of 3 at least
        for (int n : new int[] {1, 2, 9, 10, 12, 13, 60, 61}) {
            Due.due("of " + n, x.worst(n, 0), n <= 9 ? 0 : (n - 1) / 3 * 3);
        }
        Tapes.text(x, "tide (d=4&h=2)*40");
        Due.due("of 98", x.worst(98, 0), 0);
        Due.due("of 99", x.worst(99, 0), 98);
    }

    private static void worst() {
        Doc.says("Promise 11", "the hours on (what 0), SIZE then (1).");
        TideIsland x = Islands.with("tide (h=4)*9+(h=2)*5");
        x.land(0, 0, 7);
        x.land(1, 0, 15);
        x.land(2, 0, 3);
        Due.due("hours on", x.worst(3, 0), 2);
        Due.due("size then", x.worst(3, 1), 2);
        Due.due("hours on", x.worst(99, 0), 4);
        Due.due("size then", x.worst(99, 1), 1);
        Due.due("of 1", x.worst(1, 1), 3);
        x.run(3);
        Due.due("from now on", x.worst(99, 0), 1);
    }

    private static void worstBad() {
        Doc.says("Promise 11", "BAD.");
        TideIsland x = new TideIsland();
        Due.outside("n", 1, 99, BAD, v -> x.worst(v, 0));
        Due.outside("n", 1, 99, BAD, v -> x.worst(v, 1));
        Due.outside("what", 0, 1, BAD, v -> x.worst(1, v));
        Due.due("n NONE", x.worst(NONE, 0), BAD);
    }

    private static void dryFor() {
        Doc.says("Promise 12", "DRY FOR.");
        TideIsland x = new TideIsland();
        // level 5 to 11 within six hours, 3 less from the second day on
        int[][] due = {{0, 0}, {5, 0}, {6, 1}, {7, 2}, {10, 5}, {11, 6}, {12, 48}, {20, 48}};
        for (int[] d : due) {
            for (int cell : new int[] {0, 29}) {
                x.land(cell, 0, d[0]);
                Due.due("height " + d[0], x.dryFor(cell), d[1]);
            }
        }
        x.run(6);
        x.sea(3, 0);
        x.land(0, 0, 11);
        Due.due("not now", x.dryFor(0), 0);
        x.run(1);
        x.sea(3, 0);
        Due.due("from hour 7 to 17", x.dryFor(0), 11);
    }

    private static void dryForBad() {
        Doc.says("Promise 12", "BAD.");
        TideIsland x = Islands.flat(0, 20);
        Due.outside("cell", 0, 29, BAD, x::dryFor);
        Due.due("cell NONE", x.dryFor(NONE), BAD);
    }

    private static void window() {
        Doc.says("Promise 13", "WINDOW of n (1 .. 24).");
        TideIsland x = Islands.with("tide (h=5|d=0&h<2)*9");
        for (int cell : new int[] {0, 29}) {
            x.land(cell, 0, 9);
            int[][] due = {{1, 2}, {3, 2}, {4, 6}, {23, 6}, {24, NONE}};
            for (int[] d : due) {
                Due.due("of " + d[0], x.window(cell, d[0]), d[1]);
            }
        }
        Tapes.text(x, "tide (d=0&h=5)*9");
        Due.due("of 24", x.window(0, 24), 6);
    }

    private static void windowBad() {
        Doc.says("Promise 13", "BAD;");
        TideIsland x = Islands.flat(0, 20);
        Due.outside("cell", 0, 29, BAD, v -> x.window(v, 1));
        Due.outside("n", 1, 24, BAD, v -> x.window(0, v));
        Due.due("cell NONE", x.window(NONE, 1), BAD);
        Due.due("n NONE", x.window(0, NONE), BAD);
    }

    private static void windowNone() {
        Doc.says("Promise 13", "NONE.");
        TideIsland x = new TideIsland();
        Due.due("never dry", x.window(0, 1), NONE);
        Tapes.text(x, "tide (d<4|d=4&h<4)*9");
        x.land(0, 0, 9);
        Due.due("from hour 100 on is too late", x.window(0, 1), NONE);
        x.run(1);
        Due.due("an hour later it is 99 on", x.window(0, 1), 99);
    }

    private static void owns() {
        Doc.says("Promise 14", "HAS of an OWNER (0 .. 7) t (0 .. 199) hours on.");
        TideIsland x = Islands.with("tide (d=8&h=7)*5+(d=0&h=0)*8");
        for (int owner = 0; owner < 8; owner++) {
            for (int i = 0; i < 3; i++) {
                x.land(3 * owner + i, 0, i * 4 + 1);
                x.set(3 * owner + i, 1, owner);
            }
            Due.due("now", x.owns(owner, 0), 1);
            Due.due("an hour on", x.owns(owner, 1), 3);
            Due.due("198 hours on", x.owns(owner, 198), 3);
            Due.due("199 hours on", x.owns(owner, 199), 1);
        }
    }

    private static void ownsBad() {
        Doc.says("Promise 14", "BAD.");
        TideIsland x = Islands.flat(0, 20);
        Due.outside("owner", 0, 7, BAD, v -> x.owns(v, 0));
        Due.outside("t", 0, 199, BAD, v -> x.owns(0, v));
        Due.due("what nobody owns is not asked for", x.owns(NONE, 0), BAD);
        Due.due("t NONE", x.owns(0, NONE), BAD);
    }

    private static void richest() {
        Doc.says("Promise 15", "RICHEST (what 0), HAS of it, together (1).");
        TideIsland x = new TideIsland();
        Due.due("nobody has any", x.richest(0), 0);
        Due.due("together", x.richest(1), 0);
        for (int owner = 0; owner < 8; owner++) {
            x.land(owner, 0, 20);
            x.set(owner, 1, owner);
            x.land(8 + owner, 0, 20);
            x.set(8 + owner, 1, owner);
            Due.due("two cells", x.richest(0), owner);
            Due.due("together", x.richest(1), 48);
            x.set(8 + owner, 1, NONE);
        }
        for (int cell = 0; cell < 30; cell++) {
            x.land(cell, 0, 20);
            x.set(cell, 1, 7);
        }
        Due.due("all cells", x.richest(0), 7);
        Due.due("together", x.richest(1), 720);
    }

    private static void richestBad() {
        Doc.says("Promise 15", "BAD.");
        TideIsland x = new TideIsland();
        Due.outside("what", 0, 1, BAD, x::richest);
        Due.due("what NONE", x.richest(NONE), BAD);
    }
}
