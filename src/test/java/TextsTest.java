/** Promises 23 to 27: feed, trim, text, textTold, why; and what texts give. */
public final class TextsTest {
    private static final int BAD = TideIsland.BAD, FULL = TideIsland.FULL, NONE = TideIsland.NONE;

    public static void main(String[] args) {
        feedAndTrim();
        good();
        faults();
        nesting();
        usedUp();
        oneByOne();
        full();
        values();
        names();
        lastCounts();
        Due.end();
    }

    private static void feedAndTrim() {
        TideIsland x = new TideIsland();
        for (int i = 1; i <= 8; i++) {
            Due.due("feed", x.feed(1, 2, 3), 12 * i);
        }
        Due.due("feed full", x.feed(1, 2, 3), FULL);
        Due.due("tape", x.count(8), 96);
        Due.due("trim 97", x.trim(97), BAD);
        Due.due("trim -1", x.trim(-1), BAD);
        Due.due("trim 96", x.trim(96), 96);
        Due.due("trim 85", x.trim(85), 85);
        Due.due("feed full", x.feed(1, 2, 3), FULL);
        Due.due("trim 84", x.trim(84), 84);
        Due.due("trim 85", x.trim(85), BAD);
        Due.due("feed", x.feed(0, 0, 0), 96);
        Due.due("trim 0", x.trim(0), 0);
        // "grow", " c+1", and four bytes too many: the highest byte of a number comes first
        Due.due("feed", x.feed(0x67726F77, 0x20632B31, -1), 12);
        Due.due("trim", x.trim(8), 8);
        Due.due("text", x.text(), 0);
        Due.due("its key", x.textTold(0, 0), 1);
        Due.due("feed", x.feed(0x67726F77, 0x20632B31, -1), 12);
        Due.due("byte 255 is a fault", x.text(), -108);
    }

    private static void good() {
        String[] texts = {"tide 1", "grow c", "room t", "  room   h  ", "tide(h)", "grow!c", "tide 0001", "tide h+d-s*2/3",
            "room(t>h|t<3)&!(h=2)", "tide 1|2&3<4", "grow ((((((((c))))))))", "tide 1<2&2<3|3=4", "tide !!!!!!!!h",
            "tide (1<2)<3", "tide !(1)!"};
        int[] operands = {1, 1, 1, 1, 1, 1, 1, 5, 6, 4, 1, 6, 1, 3};
        int[] keys = {0, 1, 2, 2, 0, 1, 0, 0, 2, 0, 1, 0, 0, 0};
        TideIsland x = new TideIsland();
        for (int i = 0; i < 14; i++) {
            Due.due(texts[i], Tapes.text(x, texts[i]), i);
            Due.due("key of " + texts[i], x.textTold(i, 0), keys[i]);
            Due.due("operands of " + texts[i], x.textTold(i, 1), operands[i]);
        }
        Due.due(texts[14], Tapes.text(x, texts[14]), -109);
        Due.due("texts", x.count(6), 14);
        Due.due("text 14", x.textTold(14, 0), BAD);
        Due.due("text -1", x.textTold(-1, 0), BAD);
        Due.due("what 2", x.textTold(0, 2), BAD);
        Due.due("what -1", x.textTold(0, -1), BAD);
    }

    private static void faults() {
        // a text, and the place of its fault
        String[] texts = {"", "0", "   ", "3", "tid 1", "0", "tide", "4", "tide  ", "6", "tides 1", "0", " Tide 1", "1", "1", "0",
            "tide1", "4", "tideh", "0", "tide 12345", "5", "tide 1+12345", "7", "tide h h", "7", "tide 1 2", "7", "tide 1h", "6",
            "tide h1", "6", "tide hd", "5", "tide c", "5", "grow d", "5", "grow t", "5", "room c", "5", "room s", "5", "room d", "5",
            "tide t", "5", "tide h+", "7", "tide h+ ", "8", "tide h++1", "7", "tide +1", "5", "tide 1<2<3", "8", "tide 1=2>3", "8",
            "tide 1<2+3<4", "10", "tide (1<2=3)", "9", "tide (1", "7", "tide (1 ", "8", "tide ()", "6", "tide 1)", "6", "tide )", "5",
            "tide (1))", "8", "tide !", "6", "tide !)", "6", "tide h!", "6", "tide h(1)", "6", "tide (1)2", "8", "tide (1)(2)", "8",
            "tide 1&", "7", "tide 1&|2", "7", "tide 1 && 2", "8", "tide a", "5", "tide tide", "5", "tide H", "5", "tide 1%2", "6",
            "tide 1,", "6", "tide\t1", "4", "(", "0", "room h\0", "6", "tide -1", "5", "tidea 1", "0", "tidez 1", "0",
            "aide 1", "0", "brow 1", "0", "zoom 1", "0", "tied 1", "0", "gro w1", "0", "tide az", "5", "grow (c*(h-1)", "13"};
        for (int i = 0; i < texts.length; i += 2) {
            TideIsland x = new TideIsland();
            Due.due("'" + texts[i] + "'", Tapes.text(x, texts[i]), -100 - Integer.parseInt(texts[i + 1]));
            Due.due("no text came of it", x.count(6), 0);
        }
        for (int b = 0; b < 256; b++) {
            boolean sign = "|&<=>+-*/".indexOf(b) >= 0;
            TideIsland x = new TideIsland();
            boolean more = b == ' ' || b >= '0' && b <= '9';
            int due = sign ? -107 : more ? 0 : -106;
            Due.due("byte " + b, Tapes.text(x, "tide 1" + (char) b), due);
        }
        TideIsland x = new TideIsland();
        String most = "tide 1" + "+1".repeat(45);
        Due.due("96 bytes", Tapes.text(x, most), 0);
        Due.due("46 numbers", x.textTold(0, 1), 46);
        Due.due("96 bytes with a fault", Tapes.text(x, most.substring(0, 95) + "+"), -100 - 95);
        Due.due("96 bytes too short", Tapes.text(x, "tide  1" + "+1".repeat(44) + "+"), -100 - 96);
    }

    private static void nesting() {
        TideIsland x = new TideIsland();
        String eight = "((((((((";
        Due.due("eight brackets", Tapes.text(x, "tide " + eight + "1" + "))))))))"), 0);
        Due.due("a ninth", Tapes.text(x, "tide " + eight + "(1)))))))))"), -113);
        Due.due("a ninth behind others", Tapes.text(x, "tide (1)+" + eight + "(1"), -117);
        Due.due("eight again", Tapes.text(x, "tide (1)+" + eight + "1))))))))+(2)"), 1);
        Due.due("eight nots", Tapes.text(x, "tide !!!!!!!!1"), 2);
        Due.due("a ninth", Tapes.text(x, "tide !!!!!!!!!1"), -113);
        Due.due("eight and eight", Tapes.text(x, "tide !!!!!!!!1+!!!!!!!!2"), 3);
        Due.due("eight of each", Tapes.text(x, "tide !(!(!(!(!(!(!(!(1))))))))"), 4);
        Due.due("a ninth not within", Tapes.text(x, "tide !(!(!(!(!(!(!(!(!1))))))))"), -121);
        Due.due("a ninth bracket within", Tapes.text(x, "tide !(!(!(!(!(!(!(!((1)))))))))"), -121);
        Due.due("nots that are closed", Tapes.text(x, "tide !(!(!(!(!(!(!(1)))))))+!!(1)"), 5);
        Due.due("seven and two", Tapes.text(x, "tide !!!!!!!(1+!1+!1*!2)"), 6);
        Due.due("seven and two within", Tapes.text(x, "tide !!!!!!!(1+!!1)"), -116);
    }

    private static void usedUp() {
        TideIsland x = new TideIsland();
        Tapes.text(x, "tide 1");
        Due.due("used up", x.count(8), 0);
        Tapes.text(x, "tide ");
        Due.due("used up by a fault", x.count(8), 0);
        Due.due("an empty tape", x.text(), -100);
    }

    private static void oneByOne() {
        TideIsland x = new TideIsland();
        Due.due("a fault", Tapes.text(x, "tide !!(5*(6*!(7"), -116);
        Due.due("text", Tapes.text(x, "tide 7"), 0);
        Due.due("nothing is left of the fault", x.sky(0, 0), 7);
        for (int i = 1; i < 14; i++) {
            Due.due("text", Tapes.text(x, "tide " + i + "+1".repeat(20)), i);
            Due.due("level", x.sky(0, 0), i + 20);
            Due.due("operands", x.textTold(i, 1), 21);
        }
    }

    private static void full() {
        TideIsland x = new TideIsland();
        for (int i = 0; i < 14; i++) {
            Due.due("text", Tapes.text(x, "grow 1"), i);
        }
        Due.due("a fifteenth", Tapes.text(x, "tide 1"), FULL);
        Due.due("used up", x.count(8), 0);
        Due.due("a fault stands first", Tapes.text(x, "tide 1)"), -106);
        Due.due("texts", x.count(6), 14);
        Due.due("no tide", x.why(0), NONE);
    }

    private static void value(String expression, int due) {
        TideIsland x = new TideIsland();
        x.land(0, 0, 7);
        Due.due("text of " + expression, Tapes.text(x, "room " + expression), 0);
        Due.due(expression, x.told(0, 3), due);
    }

    private static void values() {
        value("1+2*3", 7);
        value("(1+2)*3", 9);
        value("20-3-4", 13);
        value("20-(3-4)", 21);
        value("40/4/3", 3);
        value("2*7/3", 4);
        value("7/3*2", 4);
        value("7/0", 0);
        value("5+7/0", 5);
        value("(0-7)/2+9", 6);
        value("1<2", 1);
        value("2<2", 0);
        value("2=2", 1);
        value("3>2", 1);
        value("2>3", 0);
        value("2>2", 0);
        value("5|0", 1);
        value("0|0", 0);
        value("5&6", 1);
        value("5&0", 0);
        value("0&5|1", 1);
        value("1|0&0", 1);
        value("(1|0)&0", 0);
        value("!0", 1);
        value("!5", 0);
        value("!!5", 1);
        value("!0+4", 5);
        value("!(0+4)", 0);
        value("!0*!0+!1", 1);
        value("1+1<3", 1);
        value("1<1+3", 1);
        value("(2=1)<1|0", 1);
    }

    private static void names() {
        TideIsland x = new TideIsland();
        x.land(0, 4, 7);
        x.land(1, 0, 9);
        Tapes.text(x, "room t*4+h");
        Due.due("t is the top, h the height: less 4", x.told(0, 3), 43);
        Due.due("room of land", x.told(1, 3), 45);
        Tapes.text(x, "room 0-5");
        Due.due("0 at least", x.told(1, 3), 0);
        Tapes.text(x, "room 9999*9999*9999");
        Due.due("ints wrap", x.told(1, 3), 9999 * 9999 * 9999 > 0 ? 99 : 0);
        Tapes.text(x, "room 100");
        Due.due("99 at most", x.told(1, 3), 99);
        Due.due("and less 4", x.told(0, 3), 95);
        x.sea(3, 7);
        Tapes.text(x, "tide h+d*3-s");
        Due.due("tide", x.sky(0, 0), 0);
        Due.due("tide", x.sky(23, 0), 16);
        Due.due("tide", x.sky(24, 0), 0);
        Due.due("tide", x.sky(193, 0), 1 + 24 - 7);
        Due.due("tide", x.sky(191, 0), 23 + 21 - 7);
        Tapes.text(x, "tide 41");
        Due.due("40 at most", x.sky(0, 0), 40);
        Tapes.text(x, "tide 0-1");
        Due.due("0 at least", x.sky(0, 0), 0);
        Due.due("top 0 is not above it", x.told(29, 7), 0);
    }

    private static void lastCounts() {
        TideIsland x = new TideIsland();
        Due.due("none", x.why(0), NONE);
        Tapes.text(x, "tide 11");
        Tapes.text(x, "room 12");
        Tapes.text(x, "tide 13");
        Due.due("tide", x.why(0), 2);
        Due.due("grow", x.why(1), NONE);
        Due.due("room", x.why(2), 1);
        Due.due("level", x.sky(0, 0), 13);
        Due.due("room", x.told(0, 3), 12);
        Due.due("why 3", x.why(3), BAD);
        Due.due("why -1", x.why(-1), BAD);
    }
}
