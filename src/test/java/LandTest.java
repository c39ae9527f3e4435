/** Promises 1 to 9: a new object, land, told, as, turns, set, sea, deal, seed. */
public final class LandTest {
    private static final int BAD = TideIsland.BAD, NONE = TideIsland.NONE, KIND = TideIsland.KIND;

    public static void main(String[] args) {
        newObject();
        land();
        told();
        as();
        turns();
        set();
        sea();
        deal();
        seed();
        Due.end();
    }

    private static void newObject() {
        TideIsland x = new TideIsland();
        int[] land = {0, 0, 0, 10, 0, 0, NONE, 0};
        for (int cell = 0; cell < 30; cell++) {
            for (int what = 0; what < land.length; what++) {
                Due.due("new told " + cell + " " + what, x.told(cell, what), land[what]);
            }
        }
        int[] counts = {0, 0, 0, 0, 0, 0, 0, 0, 0, 1};
        for (int what = 0; what < counts.length; what++) {
            Due.due("new count " + what, x.count(what), counts[what]);
        }
        int[] sea = {2, 8, 3, 0, 20, 1};
        for (int what = 0; what < sea.length; what++) {
            Due.due("new sea " + what, x.sea(what, 0), sea[what]);
        }
        Due.due("new seed", x.seed(1), 1);
        for (int i = 0; i < 3; i++) {
            Due.due("new why", x.why(i), NONE);
        }
        for (int i = 0; i < 4; i++) {
            Due.due("new sheet " + i, x.reads(i), TideIsland.NOTHING);
        }
        for (int i = 0; i < 5; i++) {
            Due.due("new slot " + i, x.lay(i, 0, 0), 0);
        }
        Due.due("new back", x.back(), TideIsland.NO);
        Due.due("new house", x.houseTold(0, 0), BAD);
    }

    private static void land() {
        TideIsland x = new TideIsland();
        Due.due("land", x.land(29, 5, 20), 0);
        Due.due("land again", x.land(29, 1, 0), 5);
        Due.due("its kind", x.told(29, 0), 1);
        Due.due("its height", x.told(29, 1), 0);
        x.set(29, 0, 44);
        x.set(29, 1, 6);
        Due.due("land once more", x.land(29, 3, 7), 1);
        Due.due("corn stays", x.told(29, 5), 44);
        Due.due("owner stays", x.told(29, 6), 6);
        int[][] bad = {{-1, 0, 0}, {30, 0, 0}, {0, -1, 0}, {0, 6, 0}, {0, 0, -1}, {0, 0, 21}, {NONE, 0, 0}};
        for (int[] b : bad) {
            Due.due("bad land", x.land(b[0], b[1], b[2]), BAD);
        }
        Due.due("cell 0 is as it was", x.told(0, 0), 0);
        Due.due("height 0 is as it was", x.told(0, 1), 0);
    }

    private static void told() {
        TideIsland x = new TideIsland();
        x.sea(5, 6);
        int[][] due = {
            // height 15, corn 37: kind, height, top, room, worth, corn, owner, dry
            {0, 15, 15, 10, 15, 37, 2, 1},
            {1, 15, 15, 7, 18, 37, 2, 1},
            {2, 15, 17, 6, 5, 37, 2, 1},
            {3, 15, 16, 3, 36, 37, 2, 1},
            {4, 15, 18, 6, 14, 37, 2, 1},
            {5, 15, 21, 1, 50, 37, 2, 1}};
        for (int kind = 0; kind < 6; kind++) {
            x.land(4, kind, 15);
            x.set(4, 0, 37);
            x.set(4, 1, 2);
            for (int what = 0; what < 8; what++) {
                Due.due("told " + kind + " " + what, x.told(4, what), due[kind][what]);
            }
        }
        x.turns(4, 1);
        int[][] corn = {{0, 10}, {9, 10}, {10, 9}, {19, 9}, {20, 8}, {99, 1}};
        for (int[] c : corn) {
            x.set(4, 0, c[0]);
            Due.due("room with corn " + c[0], x.told(4, 3), c[1]);
        }
        x.set(4, 0, 37);
        Tapes.text(x, "room 3");
        int[] room = {3, 0, 0, 0, 0, 1};
        for (int kind = 0; kind < 6; kind++) {
            x.turns(4, kind);
            Due.due("small room " + kind, x.told(4, 3), room[kind]);
        }
        x.land(5, 0, 5);
        x.land(6, 3, 5);
        x.land(7, 0, 6);
        Due.due("level 5 covers top 5", x.told(5, 7), 0);
        Due.due("raised stands out", x.told(6, 7), 1);
        Due.due("top 6 stands out", x.told(7, 7), 1);
        Due.due("told -1", x.told(0, -1), BAD);
        Due.due("told 8", x.told(0, 8), BAD);
        Due.due("told of cell -1", x.told(-1, 0), BAD);
        Due.due("told of cell 30", x.told(30, 0), BAD);
    }

    private static void as() {
        TideIsland x = new TideIsland();
        boolean[][] under = {
            {true, false, false, false, false, false},
            {true, true, false, false, false, false},
            {true, false, true, false, false, false},
            {true, true, false, true, false, false},
            {true, false, true, false, true, false},
            {true, false, false, false, false, true}};
        for (int kind = 0; kind < 6; kind++) {
            x.land(8, kind, 13);
            for (int other = 0; other < 6; other++) {
                Due.due("as " + kind + " " + other, x.as(8, other), under[kind][other] ? 13 : KIND);
            }
        }
        Due.due("as bad", x.as(-1, 0), BAD);
        Due.due("as bad", x.as(30, 0), BAD);
        Due.due("as bad", x.as(0, -1), BAD);
        Due.due("as bad", x.as(0, 6), BAD);
    }

    private static void turns() {
        TideIsland x = new TideIsland();
        x.land(3, 1, 9);
        x.set(3, 0, 50);
        x.set(3, 1, 7);
        Due.due("turns", x.turns(3, 5), 1);
        Due.due("turns again", x.turns(3, 4), 5);
        Due.due("turns the same", x.turns(3, 4), 4);
        Due.due("kind", x.told(3, 0), 4);
        Due.due("height stays", x.told(3, 1), 9);
        Due.due("corn stays", x.told(3, 5), 50);
        Due.due("owner stays", x.told(3, 6), 7);
        Due.due("turns bad", x.turns(30, 0), BAD);
        Due.due("turns bad", x.turns(-1, 0), BAD);
        Due.due("turns bad", x.turns(3, 6), BAD);
        Due.due("turns bad", x.turns(3, -1), BAD);
        Due.due("kind", x.told(3, 0), 4);
    }

    private static void set() {
        TideIsland x = new TideIsland();
        Due.due("corn", x.set(0, 0, 99), 0);
        Due.due("corn", x.set(0, 0, 0), 99);
        Due.due("corn", x.set(0, 0, 12), 0);
        Due.due("corn 100", x.set(0, 0, 100), BAD);
        Due.due("corn -1", x.set(0, 0, -1), BAD);
        Due.due("corn none", x.set(0, 0, NONE), BAD);
        Due.due("corn", x.told(0, 5), 12);
        Due.due("owner", x.set(0, 1, 7), NONE);
        Due.due("owner 8", x.set(0, 1, 8), BAD);
        Due.due("owner -1", x.set(0, 1, -1), BAD);
        Due.due("owner", x.set(0, 1, 0), 7);
        Due.due("owner none", x.set(0, 1, NONE), 0);
        Due.due("owner", x.told(0, 6), NONE);
        Due.due("what 2", x.set(0, 2, 0), BAD);
        Due.due("what -1", x.set(0, -1, 0), BAD);
        Due.due("cell 30", x.set(30, 0, 0), BAD);
        Due.due("cell -1", x.set(-1, 1, 0), BAD);
    }

    private static void sea() {
        TideIsland x = new TideIsland();
        int[] was = {2, 8, 3, 0, 20, 1};
        int[] most = {20, 20, 9, 9, 100, 20};
        for (int what = 0; what < 6; what++) {
            Due.due("sea too much " + what, x.sea(what, most[what] + 1), BAD);
            Due.due("sea too little " + what, x.sea(what, -1), BAD);
            Due.due("sea most " + what, x.sea(what, most[what]), was[what]);
            Due.due("sea least " + what, x.sea(what, 0), most[what]);
            Due.due("sea " + what, x.sea(what, was[what]), 0);
        }
        Due.due("sea 6", x.sea(6, 0), BAD);
        Due.due("sea -1", x.sea(-1, 0), BAD);
        x.sea(3, 4);
        Due.due("storm", x.count(4), 4);
        Due.due("level with storm", x.sky(0, 0), 9);
    }

    private static void deal() {
        TideIsland x = new TideIsland();
        for (int cell = 0; cell < 30; cell++) {
            x.set(cell, 0, 9);
        }
        x.seed(77);
        int got = x.deal();
        int z = 77;
        int size = 0;
        int[] more = {0, 0, 2, 1, 3, 1};
        boolean noOwner = false;
        for (int cell = 0; cell < 30; cell++) {
            int[] drawn = new int[3];
            for (int i = 0; i < 3; i++) {
                z = z * 1103515245 + 12345;
                drawn[i] = (z >>> 8) % new int[] {6, 21, 9}[i];
            }
            noOwner |= drawn[2] == 8;
            Due.due("dealt kind", x.told(cell, 0), drawn[0]);
            Due.due("dealt height", x.told(cell, 1), drawn[1]);
            Due.due("dealt owner", x.told(cell, 6), drawn[2] == 8 ? NONE : drawn[2]);
            Due.due("dealt corn", x.told(cell, 5), 0);
            size += drawn[1] + more[drawn[0]] > 5 ? 1 : 0;
        }
        Due.due("one without an owner is among them", noOwner ? 1 : 0, 1);
        Due.due("deal", got, size);
        Due.due("z behind it", x.count(9), z);
    }

    private static void seed() {
        TideIsland x = new TideIsland();
        Due.due("seed", x.seed(Integer.MIN_VALUE), 1);
        Due.due("z", x.count(9), Integer.MIN_VALUE);
        Due.due("seed", x.seed(-5), Integer.MIN_VALUE);
        Due.due("seed", x.seed(0), -5);
        Due.due("z", x.count(9), 0);
    }
}
