/** Promises 37 to 41: tell, check, keep, back, count. */
public final class ImagesTest {
    private static final int BAD = TideIsland.BAD, NO = TideIsland.NO, FULL = TideIsland.FULL, NONE = TideIsland.NONE;

    public static void main(String[] args) {
        tell();
        check();
        checkAtTheEnd();
        checkByTheImage();
        keepAndBack();
        notKept();
        texts();
        count();
        Due.end();
    }

    private static void tell() {
        TideIsland x = new TideIsland();
        for (int i = 1; i <= 60; i++) {
            Due.due("tell", x.tell(-i), i);
        }
        Due.due("full", x.tell(0), FULL);
        Due.due("60 wait", x.count(7), 60);
    }

    private static int told(TideIsland x, int n, int... numbers) {
        for (int v : numbers) {
            x.tell(v);
        }
        int answer = x.check(n);
        Due.due("none wait", x.count(7), 0);
        return answer;
    }

    private static void check() {
        TideIsland x = new TideIsland();
        x.land(0, 1, 9);
        x.land(1, 3, 6);
        Due.due("no image", told(x, 1, 2, 2), NO);
        Due.due("bad stands first", told(x, 0, 2, 2), BAD);
        x.keep();
        // levels 5 6 7 8 9: tops 9 and 7
        Due.due("five hours", told(x, 5, 2, 2, 2, 4, 1, 3, 1, 4, 0, 0), 0);
        Due.due("the last is wrong", told(x, 5, 2, 2, 2, 4, 1, 3, 1, 4, 0, 1), 10);
        Due.due("the first is wrong", told(x, 5, 3, 2, 2, 4), 1);
        Due.due("one is missing", told(x, 2, 2, 2, 2), 4);
        Due.due("all are missing", told(x, 2), 1);
        Due.due("one too many", told(x, 2, 2, 2, 2, 4, 1), 5);
        Due.due("check 31", told(x, 31, 1), BAD);
        Due.due("check -1", told(x, -1, 1), BAD);
        Due.due("nothing has changed", x.count(0), 0);
        Due.due("nor corn", x.count(2), 0);
        Due.due("again", told(x, 1, 2, 2), 0);
    }

    private static void checkAtTheEnd() {
        TideIsland x = new TideIsland();
        for (int i = 0; i < 100; i++) {
            x.run(99);
        }
        x.run(97);
        x.keep();
        Due.due("two hours are left", told(x, 30, 0, 0, 0, 0), 0);
        Due.due("one too many", told(x, 30, 0, 0, 0, 0, 0), 5);
        Due.due("one hour", told(x, 1, 0, 0), 0);
        x.run(9);
        x.keep();
        Due.due("no hour is left", told(x, 30), 0);
        Due.due("one too many", told(x, 30, 0), 1);
    }

    private static void checkByTheImage() {
        TideIsland x = new TideIsland();
        x.seed(12345);
        x.deal();
        Tapes.text(x, "grow h/5");
        x.run(30);
        x.keep();
        int[] numbers = new int[60];
        for (int i = 0; i < 60; i += 2) {
            numbers[i] = x.sky(0, 1);
            x.run(1);
            numbers[i + 1] = x.count(2);
        }
        Tapes.text(x, "grow 9");
        Tapes.text(x, "tide 3");
        x.seed(4);
        x.deal();
        int z = x.count(9);
        Due.due("thirty hours by the image", told(x, 30, numbers), 0);
        Due.due("z is as it was", x.count(9), z);
        Due.due("the hour is as it was", x.count(0), 60);
        numbers[59]++;
        Due.due("the last is wrong", told(x, 30, numbers), 60);
    }

    private static void keepAndBack() {
        TideIsland x = new TideIsland();
        Due.due("no image", x.back(), NO);
        x.seed(99);
        x.deal();
        x.house(5);
        x.house(6);
        x.settle(0, 12);
        x.settle(1, 4);
        x.sea(4, 100);
        x.sea(5, 7);
        Tapes.text(x, "room 5");
        x.run(20);
        int[] before = all(x);
        Due.due("keep", x.keep(), 2);
        for (int i = 0; i < 2; i++) {
            x.deal();
            x.house(7);
            x.settle(0, NONE);
            x.set(0, 0, 98);
            x.set(0, 1, NONE);
            Tapes.text(x, "tide 30");
            for (int what = 0; what < 6; what++) {
                x.sea(what, i);
            }
            x.run(50);
            Due.due("back, again and again", x.back(), 2);
        }
        int[] after = all(x);
        for (int k = 0; k < before.length; k++) {
            Due.due("as the image " + k, after[k], before[k]);
        }
        x.house(7);
        Due.due("another image", x.keep(), 3);
        x.house(8);
        Due.due("back to it", x.back(), 3);
    }

    /** Few enough numbers to be asked for twice within an object's 512 calls. */
    private static int[] all(TideIsland x) {
        int[] all = new int[200];
        int n = 0;
        for (int cell = 0; cell < 30; cell++) {
            for (int what : new int[] {0, 1, 5, 6}) {
                all[n++] = x.told(cell, what);
            }
        }
        for (int what = 0; what < 10; what++) {
            all[n++] = x.count(what);
        }
        for (int house = 0; house < 8; house++) {
            all[n++] = x.houseTold(house, 0);
            all[n++] = x.houseTold(house, 1);
        }
        for (int what = 0; what < 6; what++) {
            int was = x.sea(what, 0);
            x.sea(what, was);
            all[n++] = was;
        }
        for (int t = 0; t < 40; t++) {
            all[n++] = x.sky(5 * t, 0);
        }
        return all;
    }

    private static void notKept() {
        TideIsland x = new TideIsland();
        x.keep();
        x.sheet(0, 0, 3);
        x.lay(0, 3, 7);
        x.lay(1, 2, 0);
        x.tell(4);
        x.feed(1, 2, 3);
        x.back();
        Due.due("the sheet stays", x.mark(0, 2, 1), 1);
        Due.due("the slot stays", x.rest(0, 4), 3);
        Due.due("the slot stays", x.item(1, 0), 0);
        Due.due("the numbers stay", x.count(7), 1);
        Due.due("the tape stays", x.count(8), 12);
    }

    private static void texts() {
        TideIsland x = new TideIsland();
        Tapes.text(x, "tide 7");
        x.keep();
        Tapes.text(x, "tide 8");
        Due.due("level", x.sky(0, 0), 8);
        x.back();
        Due.due("texts", x.count(6), 1);
        Due.due("text 1", x.textTold(1, 0), BAD);
        Due.due("level", x.sky(0, 0), 7);
        Due.due("another text 1", Tapes.text(x, "room h+1+2"), 1);
        Due.due("its key", x.textTold(1, 0), 2);
        Due.due("its operands", x.textTold(1, 1), 3);
        Due.due("why", x.why(0), 0);
        x.back();
        Due.due("no room", x.why(2), NONE);
        Due.due("room", x.told(0, 3), 10);
    }

    private static void count() {
        TideIsland x = new TideIsland();
        x.land(1, 0, 20);
        Due.due("peak", x.count(5), 1);
        x.land(1, 0, 0);
        x.land(7, 0, 20);
        x.land(8, 2, 18);
        Due.due("peak", x.count(5), 7);
        x.turns(8, 4);
        Due.due("peak", x.count(5), 8);
        x.sea(5, 20);
        x.turns(29, 5);
        x.turns(6, 5);
        Due.due("of several the least", x.count(5), 8);
        x.land(6, 5, 1);
        Due.due("the least of 6 and 8", x.count(5), 6);
        x.set(3, 0, 9);
        x.set(7, 0, 90);
        x.house(9);
        x.settle(0, 3);
        x.sea(3, 5);
        x.run(3);
        Tapes.text(x, "room 1");
        x.tell(1);
        x.feed(0, 0, 0);
        int[] due = {3, 1, 99, 9, 4, 6, 1, 1, 12, 1103527590};
        for (int what = 0; what < due.length; what++) {
            Due.due("count " + what, x.count(what), due[what]);
        }
        Due.due("count 10", x.count(10), BAD);
        Due.due("count -1", x.count(-1), BAD);
    }
}
