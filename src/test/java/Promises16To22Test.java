/** Sentence by sentence: promises 16 to 22, house, houseTold, settle, cut, lack, going, run. */
public final class Promises16To22Test {
    private static final int BAD = TideIsland.BAD, NO = TideIsland.NO, FULL = TideIsland.FULL, NONE = TideIsland.NONE;

    public static void main(String[] args) {
        house();
        houseBad();
        houseFull();
        houseTold();
        houseToldBad();
        settle();
        settleBad();
        cut();
        cutBad();
        lack();
        lackBad();
        going();
        goingBad();
        goingNo();
        goingNone();
        run();
        runUpTo9999();
        runBad();
        for (int i = 16; i <= 22; i++) {
            Doc.allSaid("Promise " + i);
        }
        Due.end();
    }

    private static void house() {
        Doc.says("Promise 16", "One more HOUSE: its number.");
        TideIsland x = new TideIsland();
        for (int house = 0; house < 8; house++) {
            Due.due("its number", x.house(99 - house), house);
            Due.due("houses", x.count(1), house + 1);
            Due.due("many", x.houseTold(house, 0), 99 - house);
        }
    }

    private static void houseBad() {
        Doc.says("Promise 16", "BAD;");
        TideIsland x = new TideIsland();
        Due.outside("many", 1, 99, BAD, x::house);
        Due.due("NONE", x.house(NONE), BAD);
        Due.due("no house", x.count(1), 0);
        for (int house = 0; house < 8; house++) {
            x.house(1);
        }
        Due.outside("many, ahead of FULL", 1, 99, BAD, x::house);
    }

    private static void houseFull() {
        Doc.says("Promise 16", "FULL.");
        TideIsland x = new TideIsland();
        for (int house = 0; house < 7; house++) {
            x.house(1);
        }
        Due.due("the eighth", x.house(99), 7);
        Due.due("a ninth of 1", x.house(1), FULL);
        Due.due("a ninth of 99", x.house(99), FULL);
        Due.due("8", x.count(1), 8);
    }

    private static void houseTold() {
        Doc.says("Promise 17", "Of a HOUSE: what 0 MANY, 1 its CELL (NONE).");
        TideIsland x = new TideIsland();
        for (int house = 0; house < 8; house++) {
            x.house(10 + house);
            Due.due("nowhere", x.houseTold(house, 1), NONE);
            x.settle(house, 4 * house);
        }
        for (int house = 0; house < 8; house++) {
            Due.due("many", x.houseTold(house, 0), 10 + house);
            Due.due("its cell", x.houseTold(house, 1), 4 * house);
        }
    }

    private static void houseToldBad() {
        Doc.says("Promise 17", "BAD.");
        TideIsland x = new TideIsland();
        Due.due("there is no house", x.houseTold(0, 0), BAD);
        x.house(1);
        x.house(2);
        Due.outside("house", 0, 1, BAD, v -> x.houseTold(v, 0));
        Due.outside("house", 0, 1, BAD, v -> x.houseTold(v, 1));
        Due.outside("what", 0, 1, BAD, v -> x.houseTold(0, v));
        Due.due("house NONE", x.houseTold(NONE, 0), BAD);
        for (int house = 2; house < 8; house++) {
            Due.due("house " + house, x.houseTold(house, 1), BAD);
            x.house(1);
        }
        Due.due("house 8", x.houseTold(8, 0), BAD);
    }

    private static void settle() {
        Doc.says("Promise 18", "A HOUSE comes to a CELL (NONE: nowhere): where it was (NONE).");
        TideIsland x = new TideIsland();
        x.house(1);
        x.house(2);
        int was = NONE;
        for (int cell : new int[] {0, 29, 29, NONE, NONE, 13}) {
            Due.due("settle", x.settle(1, cell), was);
            Due.due("where", x.houseTold(1, 1), cell);
            was = cell;
        }
        Due.due("the other one", x.houseTold(0, 1), NONE);
        Due.due("on the same cell", x.settle(0, 13), NONE);
        Due.due("and nobody is lost by it", x.count(3), 0);
    }

    private static void settleBad() {
        Doc.says("Promise 18", "BAD.");
        TideIsland x = new TideIsland();
        Due.due("there is no house", x.settle(0, 0), BAD);
        x.house(1);
        x.settle(0, 5);
        Due.outside("cell", 0, 29, BAD, v -> x.settle(0, v));
        Due.outside("house", 0, 0, BAD, v -> x.settle(v, 0));
        Due.outside("house, to nowhere", 0, 0, BAD, v -> x.settle(v, NONE));
        Due.due("where", x.houseTold(0, 1), 5);
    }

    private static void cut() {
        Doc.says("Promise 19", "CUT t (0 .. 199) hours on, as bits.");
        TideIsland x = Islands.with("tide (d=8&h=7)*12+(d=0&h=0)*15");
        x.land(0, 0, 20);
        x.land(1, 0, 10);
        x.land(2, 0, 18);
        for (int house = 0; house < 3; house++) {
            x.house(1);
            x.settle(house, house);
        }
        Due.due("now", x.cut(0), 4);
        Due.due("an hour on", x.cut(1), 0);
        Due.due("198 hours on", x.cut(198), 0);
        Due.due("199 hours on", x.cut(199), 4);
        x.house(1);
        x.settle(3, 2);
        Due.due("two", x.cut(199), 12);
        Due.due("no house", new TideIsland().cut(0), 0);
    }

    private static void cutBad() {
        Doc.says("Promise 19", "BAD.");
        TideIsland x = new TideIsland();
        Due.outside("t", 0, 199, BAD, x::cut);
        Due.due("t NONE", x.cut(NONE), BAD);
    }

    private static void lack() {
        Doc.says("Promise 20", "LACK t (0 .. 199) hours on.");
        TideIsland x = Islands.with("tide (d=8&h=7)*12+(d=0&h=0)*15");
        x.house(99);
        x.house(1);
        x.land(0, 0, 14);
        x.land(1, 0, 20);
        Due.due("now", x.lack(0), 90);
        Due.due("an hour on", x.lack(1), 80);
        x.land(0, 0, 12);
        Due.due("198 hours on", x.lack(198), 80);
        Due.due("199 hours on", x.lack(199), 90);
    }

    private static void lackBad() {
        Doc.says("Promise 20", "BAD.");
        TideIsland x = new TideIsland();
        Due.outside("t", 0, 199, BAD, x::lack);
        Due.due("t NONE", x.lack(NONE), BAD);
    }

    private static void going() {
        Doc.says("Promise 21", "GOING.");
        TideIsland x = Islands.flat(0, 20);
        for (int house = 0; house < 8; house++) {
            x.house(1);
            x.settle(house, house);
        }
        Due.due("there", x.going(7, 7), 0);
        Due.due("beside", x.going(7, 6), 1);
        Due.due("the first house", x.going(0, 29), 9);
        Due.due("the last house", x.going(7, 29), 7);
        Due.due("it has not gone", x.houseTold(0, 1), 0);
        Due.due("no hour has gone by", x.count(0), 0);
    }

    private static void goingBad() {
        Doc.says("Promise 21", "BAD;");
        TideIsland x = Islands.flat(0, 20);
        Due.due("there is no house", x.going(0, 0), BAD);
        x.house(1);
        Due.outside("cell, ahead of NO", 0, 29, BAD, v -> x.going(0, v));
        Due.outside("house", 0, 0, BAD, v -> x.going(v, 0));
        x.settle(0, 0);
        Due.outside("cell", 0, 29, BAD, v -> x.going(0, v));
        Due.due("cell NONE", x.going(0, NONE), BAD);
    }

    private static void goingNo() {
        Doc.says("Promise 21", "NO: it is nowhere;");
        TideIsland x = Islands.flat(0, 20);
        x.house(1);
        Due.due("at first", x.going(0, 0), NO);
        x.settle(0, 0);
        Due.due("on a cell", x.going(0, 0), 0);
        x.settle(0, NONE);
        Due.due("nowhere again", x.going(0, 0), NO);
        x = new TideIsland();
        x.house(1);
        x.settle(0, 0);
        x.run(1);
        Due.due("lost", x.going(0, 0), NO);
    }

    private static void goingNone() {
        Doc.says("Promise 21", "NONE: it does not get there.");
        TideIsland x = Islands.dry(0, 2, 29);
        x.house(1);
        x.settle(0, 0);
        x.sea(0, 20);
        Due.due("its own cell is not dry", x.going(0, 0), NONE);
        x.sea(0, 2);
        Due.due("a cell that is not dry", x.going(0, 1), NONE);
        Due.due("over a cell that is not dry", x.going(0, 2), NONE);
        Due.due("far off", x.going(0, 29), NONE);
        Tapes.text(x, "tide (d<2)*5");
        x.land(1, 0, 5);
        Due.due("in 48 hours", x.going(0, 1), 48);
        Due.due("not in 48 hours", x.going(0, 2), NONE);
    }

    private static void run() {
        Doc.says("Promise 22", "n (1 .. 99) HOURS go by");
        TideIsland x = new TideIsland();
        x.land(0, 1, 20);
        x.sea(3, 0);
        x.sea(4, 0);
        x.run(1);
        Due.due("1", x.count(0), 1);
        Due.due("corn", x.told(0, 5), 1);
        x.run(98);
        Due.due("99", x.count(0), 99);
        Due.due("corn", x.told(0, 5), 99);
        x.run(99);
        Due.due("198", x.count(0), 198);
        TideIsland y = new TideIsland();
        y.land(0, 1, 20);
        y.sea(4, 0);
        for (int hour = 0; hour < 198; hour++) {
            y.run(1);
        }
        Due.due("one by one, the hour", y.count(0), 198);
        Due.due("one by one, z", y.count(9), x.count(9));
    }

    private static void runUpTo9999() {
        Doc.says("Promise 22", "(no more than up to 9999): LOST in all.");
        TideIsland x = new TideIsland();
        x.sea(4, 0);
        Islands.goTo(x, 9960);
        x.land(0, 1, 20);
        x.house(7);
        x.settle(0, 29);
        Due.due("lost", x.run(37), 7);
        Due.due("9997", x.count(0), 9997);
        Due.due("37 hours", x.told(0, 5), 37);
        x.settle(0, 29);
        Due.due("lost in all", x.run(99), 14);
        Due.due("9999", x.count(0), 9999);
        Due.due("two hours", x.told(0, 5), 39);
        x.settle(0, 29);
        int z = x.count(9);
        Due.due("no hour goes by", x.run(1), 14);
        Due.due("nor of 99", x.run(99), 14);
        Due.due("9999", x.count(0), 9999);
        Due.due("no corn", x.told(0, 5), 39);
        Due.due("the house stays", x.houseTold(0, 1), 29);
        Due.due("z", x.count(9), z);
    }

    private static void runBad() {
        Doc.says("Promise 22", "BAD.");
        TideIsland x = new TideIsland();
        Due.outside("n", 1, 99, BAD, x::run);
        Due.due("n NONE", x.run(NONE), BAD);
        Due.due("no hour has gone by", x.count(0), 0);
        Islands.goTo(x, 9999);
        Due.outside("n, at the last hour", 1, 99, BAD, x::run);
    }
}
