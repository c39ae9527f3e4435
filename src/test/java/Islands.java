/** Objects to start a test from, made with few calls. */
final class Islands {
    private Islands() {
    }

    /** All cells of one kind and height. */
    static TideIsland flat(int kind, int height) {
        TideIsland x = new TideIsland();
        for (int cell = 0; cell < 30; cell++) {
            x.land(cell, kind, height);
        }
        return x;
    }

    /** A new object with texts. */
    static TideIsland with(String... texts) {
        TideIsland x = new TideIsland();
        for (String text : texts) {
            int answer = Tapes.text(x, text);
            if (answer < 0) {
                Due.fail("'" + text + "' answered " + answer);
            }
        }
        return x;
    }

    /** Cells of plain land that are high, and no other. */
    static TideIsland dry(int... cells) {
        TideIsland x = new TideIsland();
        for (int cell : cells) {
            x.land(cell, 0, 20);
        }
        return x;
    }

    /** THE HOUR as it is asked for, without a storm. */
    static void goTo(TideIsland x, int hour) {
        int chance = x.sea(4, 0);
        for (int left = hour - x.count(0); left > 0; left -= 99) {
            x.run(Math.min(99, left));
        }
        x.sea(4, chance);
        x.sea(3, 0);
    }
}
