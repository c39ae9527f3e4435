/** Promises 16 to 22: house, houseTold, settle, cut, lack, going, run. */
public final class HousesTest {
    private static final int BAD = TideIsland.BAD, NONE = TideIsland.NONE;

    public static void main(String[] args) {
        house();
        settle();
        cut();
        lack();
        going();
        goingByHours();
        corn();
        flight();
        flightAtTheEdge();
        storms();
        chance();
        lastHour();
        Due.end();
    }

    private static void house() {
        TideIsland x = new TideIsland();
        Due.due("house 0", x.house(0), BAD);
        Due.due("house 100", x.house(100), BAD);
        for (int i = 0; i < 8; i++) {
            Due.due("house", x.house(i == 0 ? 99 : i), i);
        }
        Due.due("a ninth", x.house(1), TideIsland.FULL);
        Due.due("bad stands first", x.house(0), BAD);
        Due.due("houses", x.count(1), 8);
        Due.due("many", x.houseTold(0, 0), 99);
        Due.due("many", x.houseTold(7, 0), 7);
        Due.due("nowhere", x.houseTold(7, 1), NONE);
        Due.due("house 8", x.houseTold(8, 0), BAD);
        Due.due("house -1", x.houseTold(-1, 0), BAD);
        Due.due("what 2", x.houseTold(0, 2), BAD);
        Due.due("what -1", x.houseTold(0, -1), BAD);
    }

    private static void settle() {
        TideIsland x = new TideIsland();
        x.house(5);
        Due.due("settle", x.settle(0, 29), NONE);
        Due.due("where", x.houseTold(0, 1), 29);
        Due.due("settle", x.settle(0, 0), 29);
        Due.due("cell 30", x.settle(0, 30), BAD);
        Due.due("cell -1", x.settle(0, -1), BAD);
        Due.due("house 1", x.settle(1, 0), BAD);
        Due.due("house -1", x.settle(-1, 0), BAD);
        Due.due("nowhere", x.settle(0, NONE), 0);
        Due.due("where", x.houseTold(0, 1), NONE);
    }

    private static void cut() {
        TideIsland x = new TideIsland();
        int[] cells = {0, 1, 3, 28, 29, 12};
        int[] heights = {20, 6, 9, 12, 20, 3};
        for (int i = 0; i < cells.length; i++) {
            x.land(cells[i], 0, heights[i]);
            x.house(1);
            x.settle(i, cells[i]);
        }
        x.house(9);
        // the peak is cell 0, the least of the two highest; 12 is not dry, house 6 is nowhere
        Due.due("peak", x.count(5), 0);
        Due.due("cut", x.cut(0), 4 + 8 + 16);
        Due.due("cut at high water", x.cut(6), 8 + 16);
        x.land(0, 0, 19);
        Due.due("another peak", x.cut(0), 1 + 2 + 4);
        Tapes.text(x, "tide 40");
        Due.due("nothing is dry", x.cut(0), 0);
        Due.due("t 200", x.cut(200), BAD);
        Due.due("t -1", x.cut(-1), BAD);
    }

    private static void lack() {
        TideIsland x = new TideIsland();
        x.house(99);
        x.house(50);
        x.settle(0, 3);
        Due.due("all lack", x.lack(0), 149);
        x.land(0, 0, 6);
        x.land(1, 1, 20);
        x.set(1, 0, 29);
        x.land(2, 5, 20);
        Due.due("room of 10, 8 and 1", x.lack(0), 130);
        Due.due("room of 8 and 1", x.lack(1), 140);
        for (int cell = 0; cell < 30; cell++) {
            x.land(cell, 0, 20);
        }
        Due.due("room for all", x.lack(199), 0);
        Due.due("t 200", x.lack(200), BAD);
        Due.due("t -1", x.lack(-1), BAD);
    }

    private static void going() {
        TideIsland x = new TideIsland();
        x.house(3);
        Due.due("nowhere", x.going(0, 0), TideIsland.NO);
        Due.due("bad stands first", x.going(0, 30), BAD);
        Due.due("house 1", x.going(1, 0), BAD);
        Due.due("house -1", x.going(-1, 0), BAD);
        Due.due("cell -1", x.going(0, -1), BAD);
        x.settle(0, 0);
        Due.due("its own cell is not dry", x.going(0, 0), NONE);
        for (int cell = 0; cell < 30; cell++) {
            x.land(cell, 0, 20);
        }
        Due.due("there", x.going(0, 0), 0);
        Due.due("beside", x.going(0, 1), 1);
        Due.due("down", x.going(0, 6), 1);
        Due.due("far", x.going(0, 29), 9);
        x.settle(0, 5);
        Due.due("no way round the edge", x.going(0, 6), 6);
        x.settle(0, 29);
        Due.due("up", x.going(0, 5), 4);
        Due.due("back", x.going(0, 24), 5);
    }

    private static void goingByHours() {
        TideIsland x = new TideIsland();
        x.house(3);
        x.settle(0, 0);
        x.land(0, 0, 20);
        x.land(1, 0, 4);
        x.land(2, 0, 20);
        // cell 1 is dry with a level below 4 alone: first 24 hours on
        Due.due("waits for low water", x.going(0, 1), 24);
        Due.due("and goes on", x.going(0, 2), 25);
        Tapes.text(x, "tide (d<2)*10");
        Due.due("the last hour", x.going(0, 1), 48);
        Due.due("one more is too late", x.going(0, 2), NONE);
        Tapes.text(x, "tide (h<3)*30");
        Due.due("not dry at first", x.going(0, 1), NONE);
        Tapes.text(x, "tide (h=1)*30");
        Due.due("flooded on its way", x.going(0, 1), NONE);
    }

    private static void corn() {
        TideIsland x = new TideIsland();
        for (int kind = 0; kind < 6; kind++) {
            x.land(kind, kind, 20);
            x.set(kind, 0, 98);
            x.land(12 + kind, kind, 0);
            x.set(12 + kind, 0, 50);
        }
        Due.due("run", x.run(1), 0);
        int[] dry = {98, 99, 98, 99, 98, 98};
        int[] wet = {50, 0, 50, 0, 50, 50};
        for (int kind = 0; kind < 6; kind++) {
            Due.due("corn on " + kind, x.told(kind, 5), dry[kind]);
            Due.due("corn under water on " + kind, x.told(12 + kind, 5), wet[kind]);
        }
        x.run(1);
        Due.due("99 at most", x.told(1, 5), 99);
        Due.due("all corn", x.count(2), 98 * 4 + 99 * 2 + 50 * 4);
        Tapes.text(x, "grow c+h/10");
        x.set(1, 0, 3);
        x.set(3, 0, 50);
        x.run(1);
        Due.due("corn by the law", x.told(1, 5), 3 + 3 + 2);
        Due.due("9 more at most", x.told(3, 5), 59);
        Tapes.text(x, "grow 0-5");
        x.run(1);
        Due.due("0 more at least", x.told(3, 5), 59);
    }

    private static void flight() {
        int[][] order = {{20}, {15}, {8}, {13}};
        TideIsland x = new TideIsland();
        x.house(7);
        x.house(11);
        for (int[] next : order) {
            x.land(next[0], 0, 20);
        }
        for (int i = 0; i < order.length; i++) {
            x.settle(0, 14);
            x.run(1);
            Due.due("the first beside " + i, x.houseTold(0, 1), order[i][0]);
            x.land(order[i][0], 0, 0);
        }
        x.settle(0, 14);
        x.land(28, 0, 20);
        x.settle(1, 28);
        Due.due("lost", x.run(1), 7);
        Due.due("nowhere", x.houseTold(0, 1), NONE);
        Due.due("stays where it is dry", x.houseTold(1, 1), 28);
        Due.due("one that is nowhere is lost no more", x.run(5), 7);
        x.settle(0, 29);
        x.settle(1, 29);
        x.run(1);
        Due.due("comes back in its row", x.houseTold(0, 1), 28);
        Due.due("with the other one", x.houseTold(1, 1), 28);
        x.settle(0, 0);
        Due.due("lost in all", x.run(1), 14);
        Due.due("lost", x.count(3), 14);
    }

    private static void flightAtTheEdge() {
        // from a cell, one that is dry, and where the house comes to
        int[][] due = {{5, 6, NONE}, {6, 5, NONE}, {11, 12, NONE}, {12, 11, NONE}, {6, 0, 0}, {5, 4, 4}, {4, 5, 5}, {1, 0, 0},
            {23, 29, 29}, {24, 18, 18}, {0, 6, 6}, {0, 1, 1}, {29, 28, 28}, {29, 23, 23}, {28, 29, 29}, {0, 29, NONE}, {29, 0, NONE},
            {24, 0, NONE}, {2, 26, NONE}, {14, 7, NONE}};
        for (int[] d : due) {
            TideIsland x = new TideIsland();
            x.house(1);
            x.settle(0, d[0]);
            x.land(d[1], 0, 20);
            Due.due("from " + d[0] + " to " + d[1], x.run(1), d[2] == NONE ? 1 : 0);
            Due.due("from " + d[0] + " to " + d[1], x.houseTold(0, 1), d[2]);
        }
    }

    private static void storms() {
        TideIsland x = new TideIsland();
        x.sea(4, 100);
        x.run(1);
        Due.due("one draw at hour 0", x.count(9), 1103515245 + 12345);
        Due.due("storm", x.count(4), 1);
        x.run(11);
        Due.due("no draw up to 12", x.count(4), 1);
        x.run(1);
        Due.due("at 12 one more", x.count(4), 2);
        x.run(99);
        Due.due("9 at most", x.count(4), 9);
        x.run(23);
        Due.due("9 at most", x.count(4), 9);
        x.sea(4, 0);
        x.run(99);
        Due.due("less", x.count(4), 1);
        x.run(24);
        Due.due("0 at least", x.count(4), 0);
        int z = x.count(9);
        int storm = 0;
        x.sea(4, 50);
        for (int i = 0; i < 20; i++) {
            int hour = x.count(0);
            int due = hour / 12 + (hour % 12 == 0 ? 0 : 1);
            x.run(due * 12 - hour + 1);
            z = z * 1103515245 + 12345;
            storm = (z >>> 8) % 100 < 50 ? Math.min(9, storm + 1) : Math.max(0, storm - 1);
            Due.due("storm by lot", x.count(4), storm);
        }
        Due.due("run 0", x.run(0), BAD);
        Due.due("run 100", x.run(100), BAD);
        Due.due("run -1", x.run(-1), BAD);
    }

    private static void chance() {
        int rest = (1103515245 + 12345 >>> 8) % 100;
        TideIsland x = new TideIsland();
        x.sea(3, 4);
        x.sea(4, rest);
        x.run(1);
        Due.due("as much as the chance", x.count(4), 3);
        TideIsland y = new TideIsland();
        y.sea(3, 4);
        y.sea(4, rest + 1);
        y.run(1);
        Due.due("below the chance", y.count(4), 5);
    }

    private static void lastHour() {
        TideIsland x = new TideIsland();
        x.land(0, 1, 20);
        for (int i = 0; i < 101; i++) {
            x.run(99);
        }
        Due.due("9999", x.count(0), 9999);
        x.set(0, 0, 5);
        int z = x.count(9);
        Due.due("no hour goes by", x.run(1), 0);
        Due.due("9999", x.count(0), 9999);
        Due.due("no corn", x.told(0, 5), 5);
        Due.due("no draw", x.count(9), z);
        Due.due("sky still tells", x.sky(9, 0) > 0 ? 1 : 0, 1);
        TideIsland y = new TideIsland();
        y.land(0, 1, 20);
        for (int i = 0; i < 100; i++) {
            y.run(99);
        }
        y.run(95);
        y.set(0, 0, 5);
        y.run(99);
        Due.due("up to 9999", y.count(0), 9999);
        Due.due("four hours", y.told(0, 5), 9);
    }
}
