/** Sentence by sentence: part 5 of the terms, sheets, slots, findings, images and the hours told. */
public final class Terms5Test {
    private static final int BAD = TideIsland.BAD, NONE = TideIsland.NONE;
    private static final int NOTHING = TideIsland.NOTHING, KIND = TideIsland.KIND, INDEX = TideIsland.INDEX, SIZE = TideIsland.SIZE;

    public static void main(String[] args) {
        sheets();
        shortsAndFloats();
        placesOfSheets();
        missing();
        noNumber();
        slots();
        landForGood();
        rowOfItsOwn();
        number();
        nothing();
        index();
        size();
        kind();
        imageKeeps();
        imageKeepsNot();
        againAndAgain();
        hoursTold();
        Doc.allSaid("Terms 5");
        Due.end();
    }

    /** What stands at a place of a sheet. */
    private static int at(TideIsland x, int sheet, int place) {
        x.lay(4, 2, sheet);
        return x.item(4, place);
    }

    private static void sheets() {
        Doc.says("Terms 5", "SHEETS 0 .. 3 are rows");
        TideIsland x = new TideIsland();
        for (int sheet = 0; sheet < 4; sheet++) {
            Due.due("sheet " + sheet, x.sheet(sheet, sheet % 2, sheet + 1), sheet + 1);
            Due.due("its last place", x.mark(sheet, sheet, 5 + sheet), 1);
        }
        for (int sheet = 0; sheet < 4; sheet++) {
            Due.due("each is a row of its own", at(x, sheet, sheet), 5 + sheet);
        }
        Due.outside("sheet", 0, 3, BAD, v -> x.sheet(v, 0, 1));
        Due.due("sheet NONE", x.sheet(NONE, 0, 1), BAD);
    }

    private static void shortsAndFloats() {
        Doc.says("Terms 5", "of shorts (sort 0) or floats (1; whole numbers),");
        TideIsland x = new TideIsland();
        x.sheet(0, 0, 1);
        x.sheet(1, 1, 1);
        int[][] due = {{32767, 32767}, {32768, -32768}, {-32768, -32768}, {-32769, 32767}, {65535, -1}, {65536, 0}, {99999, -31073}};
        for (int[] d : due) {
            x.mark(0, 0, d[0]);
            Due.due(d[0] + " as a short", at(x, 0, 0), d[1]);
            x.mark(1, 0, d[0]);
            Due.due(d[0] + " as a float", at(x, 1, 0), d[0]);
        }
    }

    private static void placesOfSheets() {
        Doc.says("Terms 5", "with 0 to 24 places,");
        TideIsland x = new TideIsland();
        for (int sort = 0; sort < 2; sort++) {
            for (int n : new int[] {0, 1, 23, 24}) {
                Due.due(n + " places", x.sheet(2, sort, n), n);
                Due.due("the last of " + n, x.mark(2, n - 1, 3), n == 0 ? INDEX : 1);
                Due.due("one behind " + n, x.mark(2, n, 3), INDEX);
            }
            Due.due("25 places", x.sheet(2, sort, 25), BAD);
            Due.due("24 are left", x.mark(2, 23, 9), 1);
        }
    }

    private static void missing() {
        Doc.says("Terms 5", "or MISSING (at first).");
        TideIsland x = new TideIsland();
        for (int sheet = 0; sheet < 4; sheet++) {
            Due.due("missing at first", x.reads(sheet), NOTHING);
            x.sheet(sheet, 0, 0);
            Due.due("one of 0 places is not missing", x.reads(sheet), NONE);
            x.sheet(sheet, -1, 3);
            Due.due("missing again", x.reads(sheet), NOTHING);
        }
    }

    private static void noNumber() {
        Doc.says("Terms 5", "A place of floats may be NO NUMBER.");
        TideIsland x = new TideIsland();
        x.sheet(0, 1, 3);
        Due.due("mark", x.mark(0, 1, NONE), 1);
        Due.due("no number", at(x, 0, 1), KIND);
        Due.due("a number ahead of it", at(x, 0, 0), 0);
        Due.due("a number behind it", at(x, 0, 2), 0);
        x.mark(0, 1, 0);
        Due.due("a number again", at(x, 0, 1), 0);
        x.sheet(1, 0, 3);
        Due.due("not of shorts", x.mark(1, 1, NONE), KIND);
        Due.due("it is as it was", at(x, 1, 1), 0);
    }

    private static void slots() {
        Doc.says("Terms 5", "SLOTS 0 .. 4 each hold nothing (at first),");
        TideIsland x = new TideIsland();
        for (int slot = 0; slot < 5; slot++) {
            Due.due("ask", x.ask(slot, 0), NOTHING);
            Due.due("item", x.item(slot, 0), NOTHING);
            Due.due("rest", x.rest(slot, 1), NOTHING);
            Due.due("lay", x.lay(slot, 3, 10 + slot), 0);
        }
        for (int slot = 0; slot < 5; slot++) {
            Due.due("each holds its own", x.rest(slot, 100), 10 + slot);
            Due.due("it held a number", x.lay(slot, 0, 0), 3);
            Due.due("nothing again", x.rest(slot, 1), NOTHING);
        }
        Due.outside("slot", 0, 4, BAD, v -> x.lay(v, 0, 0));
    }

    private static void landForGood() {
        Doc.says("Terms 5", "LAND (as it is then, for good),");
        TideIsland x = new TideIsland();
        x.land(3, 3, 7);
        x.keep();
        x.lay(0, 1, 3);
        x.land(3, 5, 2);
        Due.due("its height and kind", x.ask(0, 3), 20);
        x.turns(3, 0);
        Due.due("another kind now", x.ask(0, 1), 20);
        x.seed(5);
        x.deal();
        Due.due("another island", x.ask(0, 0), 20);
        x.land(3, 2, 11);
        x.back();
        Due.due("back", x.ask(0, 3), 20);
        x.lay(0, 1, 4);
        x.land(4, 0, 20);
        Due.due("another cell's land", x.ask(0, 0), 0);
    }

    private static void rowOfItsOwn() {
        Doc.says("Terms 5", "a SHEET (a row of its own, as it was then),");
        TideIsland x = new TideIsland();
        x.sheet(0, 1, 2);
        x.mark(0, 0, 7);
        x.mark(0, 1, NONE);
        x.lay(0, 2, 0);
        x.lay(1, 2, 0);
        x.mark(0, 0, 8);
        x.mark(0, 1, 8);
        Due.due("as it was", x.item(0, 0), 7);
        Due.due("no number, as it was", x.item(0, 1), KIND);
        x.sheet(0, 0, 24);
        Due.due("as it was", x.item(0, 0), 7);
        Due.due("two places", x.item(0, 2), INDEX);
        x.sheet(0, -1, 0);
        Due.due("as it was", x.item(0, 0), 7);
        x.sheet(2, 1, 2);
        x.lay(0, 2, 2);
        Due.due("another sheet", x.item(0, 0), 0);
        Due.due("the other slot", x.item(1, 0), 7);
        x.lay(1, 3, 1);
        Due.due("no sheet any more", x.item(1, 0), KIND);
    }

    private static void number() {
        Doc.says("Terms 5", "or a number.");
        TideIsland x = new TideIsland();
        int[] numbers = {0, 1, -1, 100000, Integer.MAX_VALUE, Integer.MIN_VALUE, NONE, BAD};
        for (int v : numbers) {
            x.lay(2, 3, v);
            Due.due("the number " + v, x.rest(2, 1000003), v % 1000003);
        }
    }

    private static void nothing() {
        Doc.says("Terms 5", "FINDINGS: NOTHING: a SHEET is MISSING, a SLOT holds nothing;");
        TideIsland x = new TideIsland();
        x.sheet(1, 0, 3);
        Due.due("mark", x.mark(0, 0, 1), NOTHING);
        Due.due("pour", x.pour(0, 0), NOTHING);
        Due.due("reads", x.reads(0), NOTHING);
        Due.due("copy from", x.copy(0, 0, 1, 0, 0), NOTHING);
        Due.due("copy to", x.copy(1, 0, 0, 0, 0), NOTHING);
        Due.due("copy within", x.copy(0, 0, 0, 0, 0), NOTHING);
        Due.due("lay", x.lay(0, 2, 0), NOTHING);
        Due.due("ask", x.ask(0, 0), NOTHING);
        Due.due("item", x.item(0, 0), NOTHING);
        Due.due("rest", x.rest(0, 1), NOTHING);
    }

    private static void index() {
        Doc.says("Terms 5", "INDEX: there is no such place;");
        TideIsland x = new TideIsland();
        x.sheet(0, 0, 3);
        x.sheet(1, 1, 0);
        x.lay(0, 2, 0);
        x.lay(1, 2, 1);
        Due.outside("mark", 0, 2, INDEX, v -> x.mark(0, v, 1));
        Due.outside("mark of an empty one", 0, -1, INDEX, v -> x.mark(1, v, 1));
        Due.outside("item", 0, 2, INDEX, v -> x.item(0, v));
        Due.outside("item of an empty one", 0, -1, INDEX, v -> x.item(1, v));
        Due.outside("copy from", 0, 2, INDEX, v -> x.copy(0, v, 0, 0, 1));
        Due.outside("copy to", 0, 2, INDEX, v -> x.copy(0, 0, 0, v, 1));
        Due.due("place NONE", x.mark(0, NONE, 1), INDEX);
        Due.due("place 3, which an older row had", x.sheet(0, 0, 4) + x.sheet(0, 0, 3) + x.mark(0, 3, 1), 7 + INDEX);
    }

    private static void size() {
        Doc.says("Terms 5", "SIZE: a number of places is below 0;");
        TideIsland x = new TideIsland();
        for (int n : new int[] {-1, -2, -24, -1000, Integer.MIN_VALUE, NONE}) {
            Due.due(n + " shorts", x.sheet(0, 0, n), SIZE);
            Due.due(n + " floats", x.sheet(0, 1, n), SIZE);
        }
        Due.due("0 places", x.sheet(0, 0, 0), 0);
    }

    private static void kind() {
        Doc.says("Terms 5", "KIND: it is none (of a KIND, a number, or another thing).");
        TideIsland x = new TideIsland();
        x.sheet(0, 0, 1);
        x.sheet(1, 1, 1);
        x.mark(1, 0, NONE);
        x.lay(0, 1, 0);
        x.lay(1, 2, 1);
        x.lay(2, 3, 0);
        Due.due("land that is no field", x.as(0, 1), KIND);
        Due.due("land in a slot that is no field", x.ask(0, 1), KIND);
        Due.due("a sheet is no land", x.ask(1, 0), KIND);
        Due.due("a number is no land", x.ask(2, 0), KIND);
        Due.due("land is no sheet", x.item(0, 0), KIND);
        Due.due("a number is no sheet", x.item(2, 0), KIND);
        Due.due("what is no number", x.item(1, 0), KIND);
        Due.due("land is no number", x.rest(0, 1), KIND);
        Due.due("a sheet is no number", x.rest(1, 1), KIND);
        Due.due("no number among shorts", x.mark(0, 0, NONE), KIND);
        Due.due("shorts are no floats", x.copy(0, 0, 1, 0, 1), KIND);
        Due.due("floats are no shorts", x.copy(1, 0, 0, 0, 1), KIND);
    }

    /** Something of each sort that an image keeps, by a lot. */
    private static TideIsland drawn(int lot) {
        TideIsland x = new TideIsland();
        change(x, lot);
        return x;
    }

    private static void change(TideIsland x, int lot) {
        x.seed(lot);
        x.deal();
        for (int what = 0; what < 6; what++) {
            x.sea(what, (lot + what) % 10);
        }
        x.house(lot % 90 + 1);
        x.house(lot % 80 + 2);
        x.settle(0, lot % 30);
        x.settle(1, (lot + 7) % 30);
        Tapes.text(x, "tide h/2+s+" + lot % 7);
        Tapes.text(x, "grow c/2+" + lot % 5);
        Tapes.text(x, "room t+" + lot % 3);
        x.set(lot % 30, 0, lot % 60);
        x.set(lot % 29, 1, lot % 8);
        x.run(lot % 40 + 1);
    }

    private static void imageKeeps() {
        Doc.says("Terms 5", "AN IMAGE keeps all but");
        for (int lot = 11; lot < 41; lot += 7) {
            TideIsland x = drawn(lot);
            x.keep();
            change(x, lot + 1000);
            x.back();
            // the other one has an image too, so that both are read the same way
            TideIsland y = drawn(lot);
            y.keep();
            Readout.same("lot " + lot, x, y);
        }
    }

    private static void imageKeepsNot() {
        Doc.says("Terms 5", "SHEETS, SLOTS, numbers that wait, THE TAPE;");
        TideIsland x = new TideIsland();
        x.sheet(0, 0, 2);
        x.sheet(1, 0, 2);
        x.lay(0, 3, 5);
        x.lay(1, 3, 5);
        x.tell(1);
        x.feed(1, 2, 3);
        x.keep();
        x.sheet(0, 1, 4);
        x.sheet(1, -1, 0);
        x.sheet(2, 0, 1);
        x.lay(0, 3, 6);
        x.lay(1, 0, 0);
        x.tell(2);
        x.feed(4, 5, 6);
        x.back();
        Due.due("sheet 0 has 4 places of floats", x.mark(0, 3, NONE), 1);
        Due.due("sheet 1 is missing", x.reads(1), NOTHING);
        Due.due("sheet 2 is there", x.mark(2, 0, 1), 1);
        Due.due("slot 0", x.rest(0, 100), 6);
        Due.due("slot 1", x.rest(1, 100), NOTHING);
        Due.due("numbers", x.count(7), 2);
        Due.due("bytes", x.count(8), 24);
        x.check(1);
        x.trim(0);
        x.back();
        Due.due("no numbers", x.count(7), 0);
        Due.due("no bytes", x.count(8), 0);
    }

    private static void againAndAgain() {
        Doc.says("Terms 5", "all can become as it is (again and again).");
        TideIsland x = drawn(60);
        x.keep();
        for (int i = 0; i < 3; i++) {
            change(x, 300 + i);
            x.back();
            Due.due("the hour", x.count(0), 21);
            Due.due("houses", x.count(1), 2);
            Due.due("texts", x.count(6), 3);
        }
        TideIsland y = drawn(60);
        y.keep();
        Readout.same("the third time", x, y);
        x = drawn(60);
        x.keep();
        x.run(5);
        x.keep();
        x.run(5);
        x.back();
        Due.due("the image that was kept last", x.count(0), 26);
    }

    private static void hoursTold() {
        Doc.says("Terms 5", "THE HOURS TOLD: of n HOURS, one behind the other, by THE IMAGE: SIZE as it begins; all CORN behind it.");
        TideIsland x = drawn(33);
        x.keep();
        int[] numbers = new int[60];
        for (int i = 0; i < 60; i += 2) {
            numbers[i] = x.sky(0, 1);
            x.run(1);
            numbers[i + 1] = x.count(2);
        }
        change(x, 500);
        for (int n : new int[] {1, 2, 29, 30}) {
            for (int i = 0; i < 2 * n; i++) {
                x.tell(numbers[i]);
            }
            Due.due(n + " hours", x.check(n), 0);
        }
        for (int wrong : new int[] {0, 1, 59}) {
            for (int i = 0; i < 60; i++) {
                x.tell(i == wrong ? numbers[i] + 1 : numbers[i]);
            }
            Due.due("number " + wrong + " is not told", x.check(30), wrong + 1);
        }
    }
}
