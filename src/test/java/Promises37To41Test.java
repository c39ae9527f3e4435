/** Sentence by sentence: promises 37 to 41, tell, check, keep, back, count. */
public final class Promises37To41Test {
    private static final int BAD = TideIsland.BAD, NO = TideIsland.NO, FULL = TideIsland.FULL, NONE = TideIsland.NONE;

    public static void main(String[] args) {
        tell();
        tellFull();
        checkNoneWaitThen();
        check();
        checkByTheImage();
        checkHours();
        checkFewer();
        checkFirstWrong();
        checkMissing();
        checkTooMany();
        checkBad();
        checkNo();
        keep();
        back();
        backNo();
        count();
        countPeak();
        countNotOfTheIsland();
        countBad();
        for (int i = 37; i <= 41; i++) {
            Doc.allSaid("Promise " + i);
        }
        Due.end();
    }

    private static void tell() {
        Doc.says("Promise 37", "One more number waits: how many.");
        TideIsland x = new TideIsland();
        int[] numbers = {0, -1, Integer.MIN_VALUE, Integer.MAX_VALUE, NONE, BAD};
        for (int i = 0; i < 60; i++) {
            Due.due("tell", x.tell(numbers[i % numbers.length]), i + 1);
            Due.due("wait", x.count(7), i + 1);
        }
    }

    private static void tellFull() {
        Doc.says("Promise 37", "FULL: 60 wait.");
        TideIsland x = new TideIsland();
        for (int i = 1; i < 60; i++) {
            x.tell(i);
        }
        Due.due("the 60th", x.tell(60), 60);
        Due.due("a 61st", x.tell(61), FULL);
        Due.due("60 wait", x.count(7), 60);
        x.check(1);
        Due.due("none wait any more", x.tell(1), 1);
    }

    /** The answer to a check of n hours, with numbers told ahead of it. */
    private static int checked(TideIsland x, int n, int... numbers) {
        for (int v : numbers) {
            x.tell(v);
        }
        return x.check(n);
    }

    private static void checkNoneWaitThen() {
        Doc.says("Promise 38", "The numbers that wait (none do then, whatever is answered)");
        TideIsland x = new TideIsland();
        Due.due("NO", checked(x, 1, 0, 0), NO);
        Due.due("none wait", x.count(7), 0);
        x.keep();
        Due.due("0", checked(x, 1, 0, 0), 0);
        Due.due("none wait", x.count(7), 0);
        Due.due("3", checked(x, 1, 0, 0, 0, 0), 3);
        Due.due("none wait", x.count(7), 0);
        Due.due("1", checked(x, 1, 5, 0), 1);
        Due.due("none wait", x.count(7), 0);
        Due.due("BAD", checked(x, 0, 0, 0), BAD);
        Due.due("none wait", x.count(7), 0);
        Due.due("BAD", checked(x, 31, 0, 0), BAD);
        Due.due("none wait", x.count(7), 0);
        Due.due("what was told before is of no account", checked(x, 1, 0, 0), 0);
    }

    /** Two fields, tops 9 and 7; levels 5, 6, 7, 8, 9 from hour 0 on. */
    private static TideIsland fields() {
        TideIsland x = new TideIsland();
        x.land(0, 1, 9);
        x.land(29, 3, 6);
        x.keep();
        return x;
    }

    private static void check() {
        Doc.says("Promise 38", "two by two: 0;");
        TideIsland x = fields();
        Due.due("one hour", checked(x, 1, 2, 2), 0);
        Due.due("two hours", checked(x, 2, 2, 2, 2, 4), 0);
        Due.due("five hours", checked(x, 5, 2, 2, 2, 4, 1, 3, 1, 4, 0, 0), 0);
        Due.due("not all sizes first", checked(x, 2, 2, 2, 4, 2), 3);
    }

    private static void checkByTheImage() {
        Doc.says("Promise 38", "are THE HOURS TOLD of n");
        TideIsland x = fields();
        x.run(50);
        x.seed(9);
        x.deal();
        int z = x.count(9);
        int corn = x.count(2);
        Due.due("by the image, not by what is now", checked(x, 2, 2, 2, 2, 4), 0);
        Due.due("what is now is left alone", x.count(0), 50);
        Due.due("and its z", x.count(9), z);
        Due.due("and its corn", x.count(2), corn);
        x.back();
        Due.due("the image is left alone", x.count(0), 0);
        Due.due("and its corn", x.count(2), 0);
        Due.due("and its z", x.count(9), 1);
    }

    private static void checkHours() {
        Doc.says("Promise 38", "(1 .. 30;");
        TideIsland x = Islands.with("tide 1");
        x.land(0, 1, 2);
        x.keep();
        int[] numbers = new int[60];
        for (int i = 0; i < 60; i++) {
            numbers[i] = i % 2 == 0 ? 1 : i / 2 + 1;
        }
        Due.due("30 hours", checked(x, 30, numbers), 0);
        Due.due("29 hours", checked(x, 29, numbers), 59);
        Due.due("1 hour", checked(x, 1, numbers), 3);
        Due.due("1 hour", checked(x, 1, 1, 1), 0);
    }

    private static void checkFewer() {
        Doc.says("Promise 38", "fewer, if THE HOUR would be above 9999),");
        TideIsland x = Islands.with("tide 1");
        Islands.goTo(x, 9997);
        x.land(0, 1, 2);
        x.keep();
        Due.due("of 30, two are left", checked(x, 30, 1, 1, 1, 2), 0);
        Due.due("of 3, two are left", checked(x, 3, 1, 1, 1, 2), 0);
        Due.due("two", checked(x, 2, 1, 1, 1, 2), 0);
        Due.due("a third is too many", checked(x, 3, 1, 1, 1, 2, 1, 3), 5);
        Due.due("one", checked(x, 1, 1, 1), 0);
        x.run(2);
        x.keep();
        Due.due("none is left", checked(x, 30), 0);
        Due.due("and a number is too many", checked(x, 1, 1), 1);
        x = Islands.with("tide 1");
        x.land(0, 1, 2);
        Islands.goTo(x, 9969);
        x.set(0, 0, 0);
        x.keep();
        int[] numbers = new int[60];
        for (int i = 0; i < 60; i++) {
            numbers[i] = i % 2 == 0 ? 1 : i / 2 + 1;
        }
        Due.due("30 are left", checked(x, 30, numbers), 0);
        x.run(1);
        x.set(0, 0, 0);
        x.keep();
        Due.due("29 are left", checked(x, 30, numbers), 59);
    }

    private static void checkFirstWrong() {
        Doc.says("Promise 38", "else 1 and how many stand right ahead of the first that is not");
        int[] right = {2, 2, 2, 4, 1, 3, 1, 4, 0, 0};
        for (int wrong = 0; wrong < 10; wrong++) {
            TideIsland x = fields();
            for (int step : new int[] {1, -1}) {
                int[] numbers = right.clone();
                numbers[wrong] += step;
                Due.due("the first that is not, " + wrong, checked(x, 5, numbers), wrong + 1);
                numbers[9] = 77;
                Due.due("the first of two", checked(x, 5, numbers), wrong + 1);
            }
        }
    }

    private static void checkMissing() {
        Doc.says("Promise 38", "(or is missing,");
        int[] right = {2, 2, 2, 4, 1, 3, 1, 4, 0, 0};
        TideIsland x = fields();
        for (int many = 0; many < 10; many++) {
            int[] numbers = java.util.Arrays.copyOf(right, many);
            Due.due(many + " are told", checked(x, 5, numbers), many + 1);
        }
    }

    private static void checkTooMany() {
        Doc.says("Promise 38", "or one too many).");
        TideIsland x = fields();
        Due.due("one more", checked(x, 2, 2, 2, 2, 4, 1), 5);
        Due.due("three more", checked(x, 2, 2, 2, 2, 4, 1, 3, 1), 5);
        Due.due("a wrong one ahead of it", checked(x, 2, 2, 2, 2, 5, 1), 4);
        int[] all = new int[60];
        all[0] = 2;
        all[1] = 2;
        Due.due("60 of 2", checked(x, 1, all), 3);
    }

    private static void checkBad() {
        Doc.says("Promise 38", "BAD;");
        TideIsland x = new TideIsland();
        Due.outside("n, ahead of NO", 1, 30, BAD, x::check);
        x.keep();
        Due.outside("n", 1, 30, BAD, x::check);
        Due.due("n NONE", x.check(NONE), BAD);
    }

    private static void checkNo() {
        Doc.says("Promise 38", "NO: there is no IMAGE.");
        TideIsland x = new TideIsland();
        Due.due("no image", x.check(1), NO);
        Due.due("no image", checked(x, 30, 0, 0), NO);
        x.keep();
        Due.due("an image", checked(x, 1, 0, 0), 0);
        x.back();
        Due.due("it is still there", checked(x, 1, 0, 0), 0);
    }

    private static void keep() {
        Doc.says("Promise 39", "AN IMAGE is kept: how many HOUSES.");
        TideIsland x = new TideIsland();
        for (int many = 0; many <= 8; many++) {
            Due.due("keep", x.keep(), many);
            Due.due("keep again", x.keep(), many);
            x.house(1);
        }
        x = new TideIsland();
        x.land(0, 0, 7);
        x.keep();
        x.land(0, 0, 8);
        x.keep();
        x.land(0, 0, 9);
        x.back();
        Due.due("the one kept last", x.told(0, 1), 8);
    }

    private static void back() {
        Doc.says("Promise 40", "All is as THE IMAGE: how many HOUSES.");
        TideIsland x = new TideIsland();
        x.keep();
        for (int house = 0; house < 8; house++) {
            x.house(9);
        }
        Due.due("no house", x.back(), 0);
        Due.due("none is there", x.houseTold(0, 0), BAD);
        Due.due("house 0 anew", x.house(5), 0);
        for (int house = 1; house < 8; house++) {
            x.house(9);
        }
        x.keep();
        Due.due("8 houses", x.back(), 8);
        Due.due("back again", x.back(), 8);
        x.land(3, 2, 17);
        x.set(3, 0, 40);
        x.set(3, 1, 2);
        x.settle(7, 3);
        x.sea(3, 5);
        x.seed(123);
        Tapes.text(x, "room 44");
        x.run(1);
        x.back();
        int[] due = {0, 0, 0, 10, 0, 0, NONE, 0};
        for (int what = 0; what < 8; what++) {
            Due.due("land " + what, x.told(3, what), due[what]);
        }
        Due.due("where house 7 is", x.houseTold(7, 1), NONE);
        Due.due("the hour", x.count(0), 0);
        Due.due("lost", x.count(3), 0);
        Due.due("storm", x.count(4), 0);
        Due.due("texts", x.count(6), 0);
        Due.due("z", x.count(9), 1);
    }

    private static void backNo() {
        Doc.says("Promise 40", "NO: there is none.");
        TideIsland x = new TideIsland();
        x.house(4);
        Due.due("no image", x.back(), NO);
        Due.due("the house is there", x.count(1), 1);
        x.keep();
        Due.due("an image", x.back(), 1);
    }

    private static void count() {
        Doc.says("Promise 41", "0 THE HOUR, 1 how many HOUSES, 2 all CORN, 3 LOST, 4 STORM,");
        TideIsland x = new TideIsland();
        for (int cell = 0; cell < 30; cell++) {
            x.set(cell, 0, 99);
        }
        Due.due("all corn", x.count(2), 2970);
        x.set(0, 0, 0);
        x.set(29, 0, 1);
        Due.due("all corn", x.count(2), 2970 - 99 - 98);
        for (int house = 0; house < 8; house++) {
            x.house(99);
            x.settle(house, house);
            Due.due("houses", x.count(1), house + 1);
        }
        x.sea(3, 9);
        Due.due("storm", x.count(4), 9);
        x.sea(4, 0);
        x.run(13);
        Due.due("the hour", x.count(0), 13);
        Due.due("lost", x.count(3), 792);
        Due.due("storm", x.count(4), 7);
    }

    private static void countPeak() {
        Doc.says("Promise 41", "5 PEAK,");
        TideIsland x = new TideIsland();
        Due.due("all are alike", x.count(5), 0);
        for (int cell = 29; cell > 0; cell -= 4) {
            x.land(cell, 0, 5);
            Due.due("the least of several", x.count(5), cell);
        }
        x.land(20, 0, 6);
        Due.due("the greatest", x.count(5), 20);
        x.land(28, 2, 5);
        Due.due("by its top", x.count(5), 28);
    }

    private static void countNotOfTheIsland() {
        Doc.says("Promise 41", "6 how many TEXTS, 7 how many numbers wait, 8 bytes of THE TAPE, 9 z.");
        TideIsland x = new TideIsland();
        for (int text = 0; text < 14; text++) {
            Tapes.text(x, "tide 1");
            Due.due("texts", x.count(6), text + 1);
        }
        for (int i = 1; i <= 60; i++) {
            x.tell(i);
        }
        Due.due("60 wait", x.count(7), 60);
        for (int i = 0; i < 8; i++) {
            x.feed(0, 0, 0);
        }
        Due.due("bytes", x.count(8), 96);
        x.seed(Integer.MIN_VALUE);
        Due.due("z", x.count(9), Integer.MIN_VALUE);
    }

    private static void countBad() {
        Doc.says("Promise 41", "BAD.");
        TideIsland x = new TideIsland();
        Due.outside("what", 0, 9, BAD, x::count);
        Due.due("what NONE", x.count(NONE), BAD);
    }
}
