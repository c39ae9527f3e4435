/** Sentence by sentence: promises 23 to 27, feed, trim, text, textTold, why. */
public final class Promises23To27Test {
    private static final int BAD = TideIsland.BAD, FULL = TideIsland.FULL, NONE = TideIsland.NONE;

    public static void main(String[] args) {
        feed();
        feedFull();
        trim();
        trimBad();
        text();
        textFault();
        textBehindAFault();
        textFull();
        textToldKey();
        textToldMany();
        textToldBad();
        why();
        whyBad();
        whyNone();
        for (int i = 23; i <= 27; i++) {
            Doc.allSaid("Promise " + i);
        }
        Due.end();
    }

    private static void feed() {
        Doc.says("Promise 23", "Twelve bytes come to THE TAPE, the highest of each number first: how many it has.");
        TideIsland x = new TideIsland();
        for (int i = 1; i <= 8; i++) {
            Due.due("feed", x.feed(i, -i, 0), 12 * i);
            Due.due("bytes", x.count(8), 12 * i);
        }
        x.trim(0);
        // "tide", " 4+3", "*2-1"
        Due.due("feed", x.feed(0x74696465, 0x20342B33, 0x2A322D31), 12);
        Due.due("text", x.text(), 0);
        Due.due("level", x.sky(0, 0), 9);
        x.feed(0x74696465, 0x20342B33, 0x2A322D31);
        x.trim(5);
        // "(h+1", ")*2 ", "+3  "
        Due.due("feed behind what there is", x.feed(0x28682B31, 0x292A3220, 0x2B332020), 17);
        Due.due("text", x.text(), 1);
        Due.due("level", x.sky(4, 0), 13);
        // the highest byte of a number below 0: 0x80 .. 0xFF are bytes like others
        x.feed(0x74696465, 0x2031202B, 0xFF202020);
        Due.due("byte 255", x.text(), -108);
        x.feed(0x74696465, 0x2031202B, 0x80000000);
        Due.due("byte 128", x.text(), -108);
        x.feed(0x74696465, 0x20312020, 0x202020FF);
        Due.due("the lowest byte", x.text(), -111);
    }

    private static void feedFull() {
        Doc.says("Promise 23", "FULL: it would have more than 96.");
        TideIsland x = new TideIsland();
        for (int i = 1; i <= 7; i++) {
            x.feed(0, 0, 0);
        }
        Due.due("96 bytes", x.feed(0, 0, 0), 96);
        for (int n = 96; n > 84; n--) {
            x.trim(n);
            Due.due("12 more than " + n, x.feed(0, 0, 0), FULL);
            Due.due("bytes", x.count(8), n);
        }
        x.trim(84);
        Due.due("12 more than 84", x.feed(0, 0, 0), 96);
        // a refused feed leaves the bytes as they are
        String all = "tide 1" + "+0".repeat(44) + "+9";
        Tapes.feed(x, all);
        Due.due("full", x.feed(-1, -1, -1), FULL);
        Due.due("text", x.text(), 0);
        Due.due("level", x.sky(0, 0), 10);
    }

    private static void trim() {
        Doc.says("Promise 24", "THE TAPE keeps its first n bytes: n.");
        TideIsland x = new TideIsland();
        Due.due("0 of 0", x.trim(0), 0);
        Tapes.feed(x, "tide 12345");
        Due.due("all of them", x.trim(10), 10);
        Due.due("nine", x.trim(9), 9);
        Due.due("text", x.text(), 0);
        Tapes.feed(x, "tide 12345");
        Due.due("six", x.trim(6), 6);
        Due.due("bytes", x.count(8), 6);
        Due.due("text", x.text(), 1);
        Due.due("the first ones are kept", x.sky(0, 0), 1);
        Tapes.feed(x, "tide 1");
        Due.due("none", x.trim(0), 0);
        Due.due("bytes", x.count(8), 0);
        Due.due("an empty tape", x.text(), -100);
        for (int i = 0; i < 8; i++) {
            x.feed(0, 0, 0);
        }
        Due.due("all of 96", x.trim(96), 96);
    }

    private static void trimBad() {
        Doc.says("Promise 24", "BAD.");
        TideIsland x = new TideIsland();
        Due.outside("n of an empty tape", 0, 0, BAD, x::trim);
        x.feed(0, 0, 0);
        Due.outside("n of 12", 0, 12, BAD, x::trim);
        Due.due("n NONE", x.trim(NONE), BAD);
        x.trim(4);
        Due.due("what is gone does not come back", x.trim(5), BAD);
        Due.due("bytes", x.count(8), 4);
        for (int i = 0; i < 7; i++) {
            x.feed(0, 0, 0);
        }
        Due.due("89 of 88", x.trim(89), BAD);
        Due.due("88 of 88", x.trim(88), 88);
    }

    private static void text() {
        Doc.says("Promise 25", "THE TAPE is a TEXT: its number.");
        TideIsland x = new TideIsland();
        for (int text = 0; text < 14; text++) {
            Due.due("text", Tapes.text(x, "tide " + (text + 3)), text);
            Due.due("level", x.sky(0, 0), text + 3);
        }
        x = new TideIsland();
        Tapes.text(x, "tide 1 1");
        Due.due("a fault takes no number", Tapes.text(x, "tide 1"), 0);
    }

    private static void textFault() {
        Doc.says("Promise 25", "-100 less the place of its FAULT;");
        TideIsland x = new TideIsland();
        Due.due("an empty tape", x.text(), -100);
        Due.due("the first byte", Tapes.text(x, "x"), -100);
        Due.due("the second byte", Tapes.text(x, " x"), -101);
        Due.due("the last byte of 96", Tapes.text(x, "tide 1" + " ".repeat(89) + "2"), -195);
        Due.due("behind the last byte of 96", Tapes.text(x, "tide" + " ".repeat(92)), -196);
        Due.due("behind the last byte", Tapes.text(x, "tide (1"), -107);
        for (int text = 0; text < 14; text++) {
            Tapes.text(x, "tide 1");
        }
        Due.due("ahead of FULL", Tapes.text(x, "tide (1"), -107);
        Due.due("an empty tape, ahead of FULL", x.text(), -100);
    }

    private static void textBehindAFault() {
        Doc.says("Promise 25", "THE TAPE is a TEXT: its number. -100 less the place of its FAULT;");
        String[] faults = {"tide 5*)", "tide 5-", "tide ((((((((", "tide !!!!!!!!", "tide 1<2<3", "room t+c", "tide 5*(6-(7/!"};
        int[] places = {7, 7, 13, 13, 8, 7, 14};
        TideIsland x = new TideIsland();
        for (int i = 0; i < faults.length; i++) {
            Due.due(faults[i], Tapes.text(x, faults[i]), -100 - places[i]);
            Due.due("nothing of it stays", Tapes.text(x, "tide ((((((((!!!!!!!!" + (i % 2) + "+7))))))))"), i);
            Due.due("level", x.sky(0, 0), 7 + i % 2);
            Due.due("numbers", x.textTold(i, 1), 2);
            Due.due(faults[i], Tapes.text(x, faults[i]), -100 - places[i]);
            Due.due("nothing of it stays", Tapes.text(x, "tide 3<4<5"), -108);
        }
    }

    private static void textFull() {
        Doc.says("Promise 25", "FULL.");
        TideIsland x = new TideIsland();
        for (int text = 0; text < 13; text++) {
            Tapes.text(x, "tide 1");
        }
        Due.due("the fourteenth", Tapes.text(x, "tide 2"), 13);
        Due.due("the fifteenth", Tapes.text(x, "tide 3"), FULL);
        Due.due("the tape is used up", x.count(8), 0);
        Due.due("14", x.count(6), 14);
        Due.due("level", x.sky(0, 0), 2);
        Due.due("of another key", Tapes.text(x, "grow 3"), FULL);
        Due.due("none of it", x.why(1), NONE);
    }

    private static void textToldKey() {
        Doc.says("Promise 26", "Of a TEXT: what 0 KEY (0 tide, 1 grow, 2 room),");
        TideIsland x = Islands.with("room 1", "grow 1", "tide 1", "room 2");
        int[] keys = {2, 1, 0, 2};
        for (int text = 0; text < 4; text++) {
            Due.due("key of " + text, x.textTold(text, 0), keys[text]);
        }
    }

    private static void textToldMany() {
        Doc.says("Promise 26", "1 how many NUMBERS and NAMES it has.");
        String[] texts = {"tide 1", "tide h", "tide !(((1)))", "tide 1+h-s*d/1", "tide 11+22", "tide 1111", "tide !h|!d&s<1",
            "tide 1" + "+1".repeat(45), "tide h" + "*d".repeat(45), "room t|h", "grow c&c&c"};
        int[] many = {1, 1, 1, 5, 2, 1, 4, 46, 46, 2, 3};
        TideIsland x = new TideIsland();
        for (int text = 0; text < texts.length; text++) {
            Tapes.text(x, texts[text]);
            Due.due(texts[text], x.textTold(text, 1), many[text]);
        }
        Tapes.text(x, "tide 1+1+1+1)");
        Tapes.text(x, "tide 1+1");
        Due.due("behind a fault", x.textTold(texts.length, 1), 2);
    }

    private static void textToldBad() {
        Doc.says("Promise 26", "BAD.");
        TideIsland x = new TideIsland();
        Due.due("there is no text", x.textTold(0, 0), BAD);
        Tapes.text(x, "tide 1");
        Tapes.text(x, "tide 1");
        Due.outside("text", 0, 1, BAD, v -> x.textTold(v, 0));
        Due.outside("text", 0, 1, BAD, v -> x.textTold(v, 1));
        Due.outside("what", 0, 1, BAD, v -> x.textTold(0, v));
        Due.due("text NONE", x.textTold(NONE, 0), BAD);
        for (int text = 2; text < 14; text++) {
            Due.due("text " + text, x.textTold(text, 1), BAD);
            Tapes.text(x, "tide 1");
        }
        Due.due("text 14", x.textTold(14, 0), BAD);
    }

    private static void why() {
        Doc.says("Promise 27", "The TEXT that counts for a KEY.");
        TideIsland x = new TideIsland();
        String[] keys = {"tide", "grow", "room"};
        int[] order = {0, 1, 2, 2, 1, 0, 1, 1, 2, 0, 0, 2, 2, 1};
        for (int text = 0; text < 14; text++) {
            Tapes.text(x, keys[order[text]] + " 1");
            Due.due("it counts", x.why(order[text]), text);
        }
        Due.due("tide", x.why(0), 10);
        Due.due("grow", x.why(1), 13);
        Due.due("room", x.why(2), 12);
    }

    private static void whyBad() {
        Doc.says("Promise 27", "BAD;");
        TideIsland x = Islands.with("tide 1", "grow 1", "room 1");
        Due.outside("key", 0, 2, BAD, x::why);
        Due.due("key NONE", x.why(NONE), BAD);
    }

    private static void whyNone() {
        Doc.says("Promise 27", "NONE.");
        TideIsland x = new TideIsland();
        for (int key = 0; key < 3; key++) {
            Due.due("no text", x.why(key), NONE);
        }
        Tapes.text(x, "grow 1");
        Due.due("of another key", x.why(0), NONE);
        Due.due("of another key", x.why(2), NONE);
        x.keep();
        Tapes.text(x, "room 1");
        x.back();
        Due.due("gone with the image", x.why(2), NONE);
    }
}
