/** All that an object tells of itself, in some 360 calls: two objects with the same state have the same. */
final class Readout {
    private final TideIsland x;
    private final int[] all = new int[400];
    private int many;

    private Readout(TideIsland x) {
        this.x = x;
    }

    /** The object is used up by it: what waits and the tape are read too. */
    static int[] of(TideIsland x) {
        Readout r = new Readout(x);
        r.island();
        r.sheetsAndSlots();
        r.add(x.text());
        r.add(x.count(6));
        r.add(x.textTold(x.count(6) - 1, 1));
        r.add(x.check(2));
        r.add(x.back());
        r.island();
        for (int what = 0; what < 6; what++) {
            r.add(x.sea(what, 0));
        }
        return r.all;
    }

    static void same(String what, TideIsland got, TideIsland want) {
        int[] one = of(got);
        int[] other = of(want);
        for (int i = 0; i < one.length; i++) {
            Due.due(what + ", number " + i + " of all that it tells", one[i], other[i]);
        }
    }

    private void add(int v) {
        if (many < all.length) {
            all[many++] = v;
        }
    }

    private void island() {
        for (int cell = 0; cell < 30; cell++) {
            add(x.told(cell, 0));
            add(x.told(cell, 1));
            add(x.told(cell, 5));
            add(x.told(cell, 6));
        }
        for (int what = 0; what < 10; what++) {
            add(x.count(what));
        }
        for (int house = 0; house < 4; house++) {
            add(x.houseTold(house, 0));
            add(x.houseTold(house, 1));
        }
        for (int text = 0; text < 4; text++) {
            add(x.textTold(text, 0));
            add(x.textTold(text, 1));
        }
        for (int key = 0; key < 3; key++) {
            add(x.why(key));
        }
        add(x.sky(0, 0));
        add(x.sky(30, 0));
    }

    private void sheetsAndSlots() {
        for (int slot = 0; slot < 5; slot++) {
            add(x.ask(slot, 0));
            add(x.rest(slot, 1000003));
            add(x.item(slot, 0));
            add(x.item(slot, 2));
        }
        for (int sheet = 0; sheet < 4; sheet++) {
            add(x.lay(4, 2, sheet));
            for (int place = 0; place < 6; place++) {
                add(x.item(4, place));
            }
        }
    }
}
