/** Sentence by sentence: promises 1 to 9, a new object, land, told, as, turns, set, sea, deal, seed. */
public final class Promises1To9Test {
    private static final int BAD = TideIsland.BAD, NO = TideIsland.NO, NONE = TideIsland.NONE, NOTHING = TideIsland.NOTHING;
    private static final int KIND = TideIsland.KIND;

    public static void main(String[] args) {
        newObject();
        land();
        landBad();
        told();
        toldOwner();
        toldDry();
        toldBad();
        as();
        asBad();
        asKind();
        turns();
        turnsBad();
        setCorn();
        setOwner();
        setBad();
        sea();
        seaBad();
        deal();
        seed();
        for (int i = 1; i <= 9; i++) {
            Doc.allSaid("Promise " + i);
        }
        Due.end();
    }

    private static void newObject() {
        Doc.says("Promise 1", "As told.");
        TideIsland x = new TideIsland();
        int[] land = {0, 0, 0, 10, 0, 0, NONE, 0};
        for (int cell = 0; cell < 30; cell++) {
            for (int what = 0; what < 8; what++) {
                Due.due("told " + cell + " " + what, x.told(cell, what), land[what]);
            }
        }
        int[] counts = {0, 0, 0, 0, 0, 0, 0, 0, 0, 1};
        for (int what = 0; what < 10; what++) {
            Due.due("count " + what, x.count(what), counts[what]);
        }
        for (int sheet = 0; sheet < 4; sheet++) {
            Due.due("sheet " + sheet, x.reads(sheet), NOTHING);
        }
        for (int slot = 0; slot < 5; slot++) {
            Due.due("slot " + slot, x.ask(slot, 0), NOTHING);
        }
        for (int key = 0; key < 3; key++) {
            Due.due("why " + key, x.why(key), NONE);
        }
        Due.due("no house", x.houseTold(0, 0), BAD);
        Due.due("no text", x.textTold(0, 0), BAD);
        Due.due("no image to check by", x.check(1), NO);
        Due.due("no image to go back to", x.back(), NO);
        int[] sea = {2, 8, 3, 0, 20, 1};
        for (int what = 0; what < 6; what++) {
            Due.due("sea " + what, x.sea(what, 0), sea[what]);
        }
        Due.due("another object is new as well", new TideIsland().sea(0, 0), 2);
    }

    private static void land() {
        Doc.says("Promise 2", "LAND of a CELL is of a KIND, with a HEIGHT, from now on: what KIND it was.");
        TideIsland x = new TideIsland();
        for (int cell : new int[] {0, 29}) {
            x.set(cell, 0, 77);
            x.set(cell, 1, 6);
            int was = 0;
            for (int kind = 5; kind >= 0; kind--) {
                for (int height : new int[] {20, 0}) {
                    Due.due("land", x.land(cell, kind, height), was);
                    Due.due("kind", x.told(cell, 0), kind);
                    Due.due("height", x.told(cell, 1), height);
                    was = kind;
                }
            }
            Due.due("corn stays", x.told(cell, 5), 77);
            Due.due("owner stays", x.told(cell, 6), 6);
        }
        Due.due("cell 1 is as it was", x.told(1, 0), 0);
        Due.due("cell 28 is as it was", x.told(28, 1), 0);
    }

    private static void landBad() {
        Doc.says("Promise 2", "BAD.");
        TideIsland x = new TideIsland();
        Due.outside("cell", 0, 29, BAD, v -> x.land(v, 1, 1));
        Due.outside("kind", 0, 5, BAD, v -> x.land(0, v, 1));
        Due.outside("height", 0, 20, BAD, v -> x.land(0, 1, v));
        Due.due("cell NONE", x.land(NONE, 1, 1), BAD);
        Due.due("kind NONE", x.land(0, NONE, 1), BAD);
        Due.due("height NONE", x.land(0, 1, NONE), BAD);
        Due.due("its kind", x.told(0, 0), 0);
        Due.due("its height", x.told(0, 1), 0);
    }

    private static void told() {
        Doc.says("Promise 3", "Of the LAND of a CELL: what 0 KIND, 1 HEIGHT, 2 TOP, 3 ROOM, 4 WORTH, 5 CORN,");
        int[][] due = {{0, 12, 12, 10, 12, 25}, {1, 12, 12, 8, 15, 25}, {2, 12, 14, 6, 8, 25}, {3, 12, 13, 4, 30, 25},
            {4, 12, 15, 6, 17, 25}, {5, 12, 13, 1, 50, 25}};
        TideIsland x = new TideIsland();
        for (int kind = 0; kind < 6; kind++) {
            int cell = kind == 5 ? 29 : kind;
            x.land(cell, kind, 12);
            x.set(cell, 0, 25);
            for (int what = 0; what < 6; what++) {
                Due.due("kind " + kind + ", what " + what, x.told(cell, what), due[kind][what]);
            }
        }
    }

    private static void toldOwner() {
        Doc.says("Promise 3", "6 OWNER (NONE),");
        TideIsland x = new TideIsland();
        for (int cell = 0; cell < 30; cell++) {
            Due.due("none", x.told(cell, 6), NONE);
            x.set(cell, 1, cell % 8);
            Due.due("owner", x.told(cell, 6), cell % 8);
        }
        x.set(4, 1, NONE);
        Due.due("none again", x.told(4, 6), NONE);
    }

    private static void toldDry() {
        Doc.says("Promise 3", "7 whether DRY now (1, 0).");
        TideIsland x = Islands.with("tide h+5");
        x.land(29, 0, 6);
        x.land(0, 2, 4);
        Due.due("top 6, level 5", x.told(29, 7), 1);
        Due.due("top 6, level 5", x.told(0, 7), 1);
        Due.due("top 0, level 5", x.told(1, 7), 0);
        x.run(1);
        Due.due("top 6, level 6", x.told(29, 7), 0);
        Due.due("top 6, level 6", x.told(0, 7), 0);
    }

    private static void toldBad() {
        Doc.says("Promise 3", "BAD.");
        TideIsland x = new TideIsland();
        for (int what = 0; what < 8; what++) {
            int asked = what;
            Due.outside("cell", 0, 29, BAD, v -> x.told(v, asked));
            Due.due("cell NONE", x.told(NONE, what), BAD);
        }
        Due.outside("what", 0, 7, BAD, v -> x.told(0, v));
    }

    private static void as() {
        Doc.says("Promise 4", "LAND as LAND of a KIND: HEIGHT.");
        int[][] under = {{0}, {0, 1}, {0, 2}, {0, 1, 3}, {0, 2, 4}, {0, 5}};
        TideIsland x = new TideIsland();
        for (int kind = 0; kind < 6; kind++) {
            for (int height : new int[] {0, 20}) {
                x.land(29, kind, height);
                for (int above : under[kind]) {
                    Due.due("kind " + kind + " as " + above, x.as(29, above), height);
                }
            }
        }
    }

    private static void asBad() {
        Doc.says("Promise 4", "BAD: cell, kind;");
        TideIsland x = new TideIsland();
        Due.outside("cell", 0, 29, BAD, v -> x.as(v, 0));
        Due.outside("kind", 0, 5, BAD, v -> x.as(0, v));
        Due.due("cell NONE", x.as(NONE, 0), BAD);
        Due.due("kind NONE", x.as(0, NONE), BAD);
    }

    private static void asKind() {
        Doc.says("Promise 4", "KIND: it is not of that KIND, nor of one under it.");
        int[][] not = {{1, 2, 3, 4, 5}, {2, 3, 4, 5}, {1, 3, 4, 5}, {2, 4, 5}, {1, 3, 5}, {1, 2, 3, 4}};
        TideIsland x = new TideIsland();
        for (int kind = 0; kind < 6; kind++) {
            x.land(0, kind, 9);
            for (int other : not[kind]) {
                Due.due("kind " + kind + " as " + other, x.as(0, other), KIND);
            }
        }
    }

    private static void turns() {
        Doc.says("Promise 5", "LAND is of another KIND from now on: what it was.");
        for (int cell : new int[] {0, 29}) {
            TideIsland x = new TideIsland();
            x.land(cell, 1, 9);
            x.set(cell, 0, 50);
            x.set(cell, 1, 7);
            int was = 1;
            for (int kind : new int[] {5, 0, 4, 3, 2, 1}) {
                Due.due("turns", x.turns(cell, kind), was);
                Due.due("kind", x.told(cell, 0), kind);
                Due.due("height stays", x.told(cell, 1), 9);
                Due.due("corn stays", x.told(cell, 5), 50);
                Due.due("owner stays", x.told(cell, 6), 7);
                was = kind;
            }
            Due.due("to the kind that it is", x.turns(cell, 1), 1);
        }
    }

    private static void turnsBad() {
        Doc.says("Promise 5", "BAD.");
        TideIsland x = new TideIsland();
        Due.outside("cell", 0, 29, BAD, v -> x.turns(v, 1));
        Due.outside("kind", 0, 5, BAD, v -> x.turns(0, v));
        Due.due("cell NONE", x.turns(NONE, 1), BAD);
        Due.due("kind NONE", x.turns(0, NONE), BAD);
        Due.due("its kind", x.told(0, 0), 0);
    }

    private static void setCorn() {
        Doc.says("Promise 6", "CORN (what 0),");
        TideIsland x = new TideIsland();
        int was = 0;
        for (int v : new int[] {99, 0, 1, 98, 98}) {
            Due.due("corn", x.set(29, 0, v), was);
            Due.due("corn", x.told(29, 5), v);
            was = v;
        }
        Due.due("of another cell", x.told(28, 5), 0);
        Due.due("the owner stays", x.told(29, 6), NONE);
    }

    private static void setOwner() {
        Doc.says("Promise 6", "OWNER (1; NONE: none) of a CELL becomes v: what it was (NONE).");
        TideIsland x = new TideIsland();
        int was = NONE;
        for (int v : new int[] {0, 7, NONE, NONE, 3, 3}) {
            Due.due("owner", x.set(0, 1, v), was);
            Due.due("owner", x.told(0, 6), v);
            was = v;
        }
        Due.due("of another cell", x.told(1, 6), NONE);
        Due.due("the corn stays", x.told(0, 5), 0);
    }

    private static void setBad() {
        Doc.says("Promise 6", "BAD.");
        TideIsland x = new TideIsland();
        Due.outside("cell of corn", 0, 29, BAD, v -> x.set(v, 0, 1));
        Due.outside("cell of an owner", 0, 29, BAD, v -> x.set(v, 1, 1));
        Due.outside("what", 0, 1, BAD, v -> x.set(0, v, 1));
        Due.outside("corn", 0, 99, BAD, v -> x.set(0, 0, v));
        Due.outside("owner", 0, 7, BAD, v -> x.set(0, 1, v));
        Due.due("corn NONE", x.set(0, 0, NONE), BAD);
        Due.due("cell NONE", x.set(NONE, 1, NONE), BAD);
        Due.due("no owner of what 2", x.set(0, 2, NONE), BAD);
        Due.due("corn", x.told(0, 5), 0);
        Due.due("owner", x.told(0, 6), NONE);
    }

    private static void sea() {
        Doc.says("Promise 7", "LOW (what 0), HIGH (1), SPRING (2), STORM (3), CHANCE (4), STONES (5) becomes v: what it was.");
        TideIsland x = new TideIsland();
        int[] was = {2, 8, 3, 0, 20, 1};
        int[] most = {20, 20, 9, 9, 100, 20};
        for (int what = 0; what < 6; what++) {
            Due.due("the most of " + what, x.sea(what, most[what]), was[what]);
            Due.due("the least of " + what, x.sea(what, 0), most[what]);
        }
        Due.due("low", x.sea(0, 7) + x.sky(24, 0), 7);
        Due.due("high", x.sea(1, 19) + x.sky(30, 0), 19);
        Due.due("spring", x.sea(2, 8) + x.sky(0, 0), 15);
        Due.due("storm", x.sea(3, 6) + x.sky(24, 0), 13);
        x.turns(0, 5);
        Due.due("stones", x.sea(5, 13) + x.told(0, 2), 13);
        Due.due("chance", x.sea(4, 100), 0);
        x.run(1);
        Due.due("a storm by chance 100", x.count(4), 7);
    }

    private static void seaBad() {
        Doc.says("Promise 7", "BAD.");
        TideIsland x = new TideIsland();
        int[] was = {2, 8, 3, 0, 20, 1};
        int[] most = {20, 20, 9, 9, 100, 20};
        Due.outside("what", 0, 5, BAD, v -> x.sea(v, 1));
        for (int what = 0; what < 6; what++) {
            int asked = what;
            Due.outside("v of " + what, 0, most[what], BAD, v -> x.sea(asked, v));
            Due.due("NONE of " + what, x.sea(what, NONE), BAD);
            Due.due("it is as it was", x.sea(what, 0), was[what]);
        }
    }

    private static void deal() {
        Doc.says("Promise 8", "AN ISLAND is drawn: SIZE now.");
        for (int seed = 0; seed < 20; seed++) {
            TideIsland x = new TideIsland();
            x.run(1 + seed);
            x.seed(seed);
            int got = x.deal();
            int dry = 0;
            for (int cell = 0; cell < 30; cell++) {
                dry += x.told(cell, 7);
            }
            Due.due("deal with " + seed, got, dry);
        }
        TideIsland x = Islands.with("tide 40");
        Due.due("none is dry", x.deal(), 0);
        x.house(5);
        x.settle(0, 3);
        x.sea(3, 5);
        x.deal();
        Due.due("houses stay", x.houseTold(0, 1), 3);
        Due.due("the sea stays", x.count(4), 5);
        Due.due("texts stay", x.count(6), 1);
        Due.due("the hour stays", x.count(0), 0);
    }

    private static void seed() {
        Doc.says("Promise 9", "z becomes v: what it was.");
        TideIsland x = new TideIsland();
        int was = 1;
        for (int v : new int[] {0, -1, Integer.MIN_VALUE, Integer.MAX_VALUE, NONE, BAD, 1}) {
            Due.due("seed", x.seed(v), was);
            Due.due("z", x.count(9), v);
            was = v;
        }
    }
}
