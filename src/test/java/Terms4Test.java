/** Sentence by sentence: part 4 of the terms, texts. */
public final class Terms4Test {
    private static final int BAD = TideIsland.BAD, FULL = TideIsland.FULL, NONE = TideIsland.NONE;

    public static void main(String[] args) {
        fourteen();
        ninetySix();
        usedUp();
        key();
        or();
        and();
        test();
        sum();
        term();
        number();
        piece();
        namesOfTide();
        namesOfGrow();
        namesOfRoom();
        words();
        signs();
        blanks();
        blankNeeded();
        fault();
        wordWithoutBlank();
        fiveDigits();
        ninthBracket();
        ninthNot();
        tooSoon();
        intsWrap();
        by0();
        trueAndFalse();
        toldLast();
        Doc.allSaid("Terms 4");
        Due.end();
    }

    /** A text is refused for the word or sign at a place. */
    private static void faultAt(int place, String text) {
        TideIsland x = new TideIsland();
        Due.due("'" + text + "'", Tapes.text(x, text), -100 - place);
        Due.due("texts behind '" + text + "'", x.count(6), 0);
    }

    /** A text is taken. */
    private static void fine(String text) {
        Due.due("'" + text + "'", Tapes.text(new TideIsland(), text), 0);
    }

    /** What an expression gives in a text of room, on land of height 7. */
    private static void gives(int due, String expression) {
        TideIsland x = new TideIsland();
        x.land(0, 0, 7);
        Due.due("text of '" + expression + "'", Tapes.text(x, "room " + expression), 0);
        Due.due("'" + expression + "'", x.told(0, 3), due);
    }

    private static void fourteen() {
        Doc.says("Terms 4", "TEXTS, 14 at most, numbered from 0, from THE TAPE");
        TideIsland x = new TideIsland();
        for (int text = 0; text < 14; text++) {
            Due.due("there is none yet", x.textTold(text, 0), BAD);
            Due.due("its number", Tapes.text(x, "tide " + text), text);
            Due.due("how many", x.count(6), text + 1);
        }
        Due.due("a fifteenth", Tapes.text(x, "tide 30"), FULL);
        Due.due("14", x.count(6), 14);
        Due.due("it counts for nothing", x.sky(0, 0), 13);
        Due.due("there is no text 14", x.textTold(14, 0), BAD);
    }

    private static void ninetySix() {
        Doc.says("Terms 4", "(96 bytes at most;");
        TideIsland x = new TideIsland();
        String all = "tide 1" + "+1".repeat(45);
        Due.due("96 bytes are a text", Tapes.text(x, all), 0);
        Due.due("46 numbers", x.textTold(0, 1), 46);
        Due.due("level, held", x.sky(0, 0), 40);
        Due.due("96 bytes, another sum", Tapes.text(x, "tide 1" + "+0".repeat(44) + "+9"), 1);
        Due.due("the last byte counts", x.sky(0, 0), 10);
        for (int i = 1; i <= 8; i++) {
            Due.due("feed", x.feed(1, 1, 1), 12 * i);
        }
        Due.due("more than 96", x.feed(1, 1, 1), FULL);
        Due.due("still 96", x.count(8), 96);
    }

    private static void usedUp() {
        Doc.says("Terms 4", "an act that reads it uses it up, whatever it answers):");
        TideIsland x = new TideIsland();
        Due.due("a text", Tapes.text(x, "tide 1"), 0);
        Due.due("used up", x.count(8), 0);
        Due.due("a fault", Tapes.text(x, "tide 1 1"), -107);
        Due.due("used up", x.count(8), 0);
        Due.due("an empty tape", x.text(), -100);
        for (int i = 1; i < 14; i++) {
            Tapes.text(x, "grow 1");
        }
        Due.due("full", Tapes.text(x, "grow 1"), FULL);
        Due.due("used up", x.count(8), 0);
        x.feed(1, 2, 3);
        x.keep();
        x.back();
        x.run(1);
        Due.due("other acts leave it", x.count(8), 12);
    }

    private static void key() {
        Doc.says("Terms 4", "KEY E. KEY: tide | grow | room.");
        String[] keys = {"tide", "grow", "room"};
        for (int key = 0; key < 3; key++) {
            TideIsland x = new TideIsland();
            Due.due(keys[key], Tapes.text(x, keys[key] + " 1"), 0);
            Due.due("its key", x.textTold(0, 0), key);
            faultAt(4, keys[key]);
            faultAt(5, keys[key] + " " + keys[key] + " 1");
            faultAt(0, keys[key].substring(0, 3) + " 1");
            faultAt(0, keys[key] + keys[key].charAt(3) + " 1");
            faultAt(0, keys[key].toUpperCase() + " 1");
        }
        faultAt(0, "1");
        faultAt(0, "h");
        faultAt(0, "(tide 1)");
        faultAt(0, "tids 1");
        faultAt(0, "uide 1");
        faultAt(0, "brow 1");
        faultAt(0, "grox 1");
        faultAt(0, "roon 1");
        faultAt(0, "roam 1");
        faultAt(7, "tide 1 tide 2");
    }

    private static void or() {
        Doc.says("Terms 4", "E, the loosest first: OR: AND { | AND };");
        gives(1, "1|0&0");
        gives(0, "(1|0)&0");
        gives(1, "0|0|1");
        gives(1, "0&0|1");
        gives(1, "2=3|1");
        gives(3, "(0|5)+2");
        gives(1, "0|0+2");
        faultAt(7, "tide 1|");
        faultAt(7, "tide 1||2");
        faultAt(5, "tide |1");
    }

    private static void and() {
        Doc.says("Terms 4", "AND: TEST { & TEST };");
        gives(1, "1&2<3");
        gives(0, "0<1&1<0");
        gives(1, "(0&1)<1");
        gives(0, "0&1<1");
        gives(0, "1&1&0");
        gives(1, "1&1&5");
        faultAt(7, "tide 1&");
        faultAt(7, "tide 1&&2");
        faultAt(5, "tide &1");
    }

    private static void test() {
        Doc.says("Terms 4", "TEST: SUM [ (< | = | >) SUM ];");
        gives(1, "1+1<3");
        gives(0, "1+1>3-1");
        gives(1, "2=1+1");
        gives(1, "(1<2)=1");
        gives(1, "(3>2)>(2>3)");
        gives(1, "1<2&2<3");
        gives(1, "3<2|2<3");
        String signs = "<=>";
        for (int i = 0; i < 3; i++) {
            for (int k = 0; k < 3; k++) {
                faultAt(8, "tide 1" + signs.charAt(i) + "2" + signs.charAt(k) + "3");
                faultAt(7, "tide 1" + signs.charAt(i) + signs.charAt(k) + "3");
            }
            faultAt(12, "tide 1" + signs.charAt(i) + "2+3*4" + signs.charAt(i) + "5");
            faultAt(7, "tide 1" + signs.charAt(i));
            faultAt(5, "tide " + signs.charAt(i) + "1");
            fine("tide (1" + signs.charAt(i) + "2)" + signs.charAt(i) + "3");
            fine("tide 1" + signs.charAt(i) + "2&3" + signs.charAt(i) + "4|5" + signs.charAt(i) + "6");
            faultAt(12, "tide 1" + signs.charAt(i) + "2&3" + signs.charAt(i) + "4" + signs.charAt(i) + "6");
            faultAt(9, "tide (1" + signs.charAt(i) + "2" + signs.charAt(i) + "3)");
            faultAt(12, "tide 1" + signs.charAt(i) + "(2=3)" + signs.charAt(i) + "3");
        }
    }

    private static void sum() {
        Doc.says("Terms 4", "SUM: TERM { (+ | -) TERM };");
        gives(7, "1+2*3");
        gives(9, "(1+2)*3");
        gives(13, "20-3-4");
        gives(21, "20-(3-4)");
        gives(21, "20-3+4");
        gives(8, "20-4*3");
        gives(17, "20-9/3");
        faultAt(5, "tide +1");
        faultAt(5, "tide -1");
        faultAt(7, "tide 1+");
        faultAt(7, "tide 1--1");
        faultAt(7, "tide 1+-1");
        faultAt(6, "tide (-1)");
    }

    private static void term() {
        Doc.says("Terms 4", "TERM: PIECE { (* | /) PIECE };");
        gives(3, "40/4/3");
        gives(20, "40/(4/2)");
        gives(4, "2*7/3");
        gives(4, "7/3*2");
        gives(5, "5*!0");
        gives(0, "!0*!5");
        faultAt(5, "tide *1");
        faultAt(5, "tide /1");
        faultAt(7, "tide 1*");
        faultAt(7, "tide 1**1");
        faultAt(7, "tide 1/");
    }

    private static void number() {
        Doc.says("Terms 4", "PIECE: NUMBER (1 to 4 digits)");
        gives(0, "0");
        gives(7, "7");
        gives(42, "42");
        gives(42, "042");
        gives(42, "0042");
        gives(99, "100");
        gives(9, "999/100");
        gives(99, "9999/101");
        gives(98, "9999-9901");
        gives(0, "0000");
        faultAt(5, "room 00042");
        faultAt(5, "room 12345");
        faultAt(5, "room 123456789");
    }

    private static void piece() {
        Doc.says("Terms 4", "| NAME | ! PIECE | ( E ).");
        gives(7, "h");
        gives(0, "!h");
        gives(1, "!!h");
        gives(5, "!0+4");
        gives(0, "!(0+4)");
        gives(1, "!(h<7)");
        gives(8, "((h+1))");
        gives(1, "!!(0|5)");
        faultAt(6, "room ()");
        faultAt(6, "room !");
        faultAt(6, "room !)");
        faultAt(6, "room !+1");
        faultAt(6, "room h!");
        faultAt(6, "room h(1)");
        faultAt(8, "room (1)h");
        faultAt(8, "room (1)(2)");
        faultAt(8, "room (1)!2");
        faultAt(6, "room 1)");
        faultAt(8, "room (1))");
        faultAt(5, "room )");
        faultAt(7, "room (1");
        faultAt(11, "room ((1+2)");
    }

    private static void namesOfTide() {
        Doc.says("Terms 4", "NAMES, each one letter: of tide h the rest of T by 24, d T / 24, s STORM;");
        TideIsland x = Islands.with("tide h");
        int[][] hours = {{0, 0}, {1, 1}, {12, 12}, {23, 23}, {24, 0}, {47, 23}, {48, 0}, {199, 7}};
        for (int[] h : hours) {
            Due.due("h of " + h[0], x.sky(h[0], 0), h[1]);
        }
        Tapes.text(x, "tide d");
        int[][] days = {{0, 0}, {23, 0}, {24, 1}, {47, 1}, {48, 2}, {191, 7}, {192, 8}, {199, 8}};
        for (int[] d : days) {
            Due.due("d of " + d[0], x.sky(d[0], 0), d[1]);
        }
        Tapes.text(x, "tide s*4");
        for (int storm = 0; storm <= 9; storm++) {
            x.sea(3, storm);
            Due.due("s", x.sky(5, 0), 4 * storm);
        }
        Islands.goTo(x, 9999);
        Tapes.text(x, "tide d/25");
        Due.due("day 416", x.sky(0, 0), 16);
        Tapes.text(x, "tide h");
        Due.due("hour 15 of it", x.sky(0, 0), 15);
        Due.due("8 hours on", x.sky(8, 0), 23);
        Due.due("9 hours on", x.sky(9, 0), 0);
        for (char c = 'a'; c <= 'z'; c++) {
            if ("hds".indexOf(c) < 0) {
                faultAt(5, "tide " + c);
            }
        }
    }

    private static void namesOfGrow() {
        Doc.says("Terms 4", "of grow c CORN, h HEIGHT;");
        int[][] due = {{3, 0, 6}, {3, 20, 8}, {0, 9, 0}, {0, 10, 1}, {50, 20, 59}};
        for (int[] d : due) {
            TideIsland x = Islands.with("grow c+h/10", "tide 0");
            x.land(0, 3, d[1]);
            x.set(0, 0, d[0]);
            x.run(1);
            Due.due("corn " + d[0] + ", height " + d[1], x.told(0, 5), d[2]);
        }
        for (char c = 'a'; c <= 'z'; c++) {
            if ("ch".indexOf(c) < 0) {
                faultAt(5, "grow " + c);
            }
        }
    }

    private static void namesOfRoom() {
        Doc.says("Terms 4", "of room t TOP, h HEIGHT.");
        TideIsland x = Islands.with("room t*4+h");
        x.sea(5, 9);
        int[][] due = {{0, 0, 0}, {0, 9, 45}, {1, 9, 45}, {3, 5, (4 * 6 + 5) / 2}, {2, 5, 4 * 7 + 5 - 4}, {4, 5, 4 * 8 + 5 - 4}, {5, 5, 1},
            {0, 20, 99}};
        for (int[] d : due) {
            x.land(0, d[0], d[1]);
            Due.due("kind " + d[0] + ", height " + d[1], x.told(0, 3), d[2]);
        }
        for (char c = 'a'; c <= 'z'; c++) {
            if ("th".indexOf(c) < 0) {
                faultAt(5, "room " + c);
            }
        }
    }

    private static void words() {
        Doc.says("Terms 4", "A word is a row of letters a .. z, or of digits, as long as it goes;");
        faultAt(5, "tide hh");
        faultAt(5, "tide hs");
        faultAt(5, "tide ha");
        faultAt(5, "tide hz");
        faultAt(0, "tidea 1");
        faultAt(0, "tidez 1");
        faultAt(0, "atide 1");
        faultAt(0, "ztide 1");
        faultAt(0, "tideh");
        fine("tide 1234");
        fine("tide 9090");
        faultAt(5, "tide 12340");
        faultAt(5, "tide 12349");
        // a letter ends a word of digits, and a digit one of letters
        faultAt(6, "tide 1h");
        faultAt(6, "tide h1");
        faultAt(6, "tide h0");
        faultAt(6, "tide h9");
        faultAt(9, "tide 1234h");
    }

    private static void signs() {
        Doc.says("Terms 4", "any other byte is a sign by itself.");
        for (int b = 0; b < 256; b++) {
            boolean word = b >= 'a' && b <= 'z' || b >= '0' && b <= '9' || b == ' ';
            boolean goesOn = "|&<=>+-*/".indexOf(b) >= 0;
            if (!word) {
                faultAt(goesOn ? 7 : 6, "tide h" + (char) b);
                faultAt(goesOn ? 7 : 6, "tide 1" + (char) b);
                // ( and ! may stand right behind the key
                faultAt(b == '(' || b == '!' ? 5 : 4, "tide" + (char) b);
                faultAt(b == '(' || b == '!' ? 2 + 5 : 5, "tide " + (b == '(' || b == '!' ? " " : "") + (char) b);
            }
        }
        fine("tide!(!1)");
        faultAt(8, "tide 1 && 1");
        faultAt(8, "tide 1 == 1");
        faultAt(8, "tide 1 <= 1");
    }

    private static void blanks() {
        Doc.says("Terms 4", "Between words and signs, and at the ends, there may be blanks (byte 32);");
        fine("tide 1");
        fine("tide     1");
        fine("    tide 1");
        fine("tide 1    ");
        fine("  tide   !  (  h  +  1  )  *  2   <  3  &  4  |  5   ");
        fine("tide(h+1)*2<3&4|5");
        fine(" ".repeat(90) + "tide 1");
        fine("tide" + " ".repeat(91) + "1");
        fine("tide 1" + " ".repeat(90));
        faultAt(4, "tide\t1");
        faultAt(4, "tide\n1");
        faultAt(4, "tide\0001");
        faultAt(4, "tide" + (char) 31 + "1");
        faultAt(4, "tide_1");
        faultAt(4, "tide" + (char) 160 + "1");
        faultAt(7, "tide 1 2");
        faultAt(0, "ti de 1");
        faultAt(7, "tide 1 234");
    }

    private static void blankNeeded() {
        Doc.says("Terms 4", "a word right behind another one needs one.");
        fine("tide 1");
        fine("tide h");
        faultAt(4, "tide1");
        faultAt(4, "tide1234");
        faultAt(6, "  tide1");
        faultAt(4, "room0+1");
        // a word behind a sign needs none, nor does a sign behind a word
        fine("tide(1)");
        fine("tide!1");
        fine("tide 1+h-d*s/2");
        fine("tide h<1&d>s");
    }

    private static void fault() {
        Doc.says("Terms 4", "FAULT: the first byte of the first word or sign with which no TEXT goes on");
        faultAt(3, "   tids 1)");
        faultAt(11, "tide   1   2222");
        faultAt(9, "tide 1 + hhh");
        faultAt(9, "tide 1 + 12345)");
        // the first of several
        faultAt(5, "tide c+c");
        faultAt(0, "1 1 1");
        faultAt(6, "tide 1)1)");
        faultAt(10, "tide (1+2 3");
        // what follows a fault says nothing of it
        faultAt(7, "tide 1 2+3");
        faultAt(95, "tide 1" + "+1".repeat(44) + "+c");
        faultAt(94, "tide 1" + "+1".repeat(44) + "))");
    }

    private static void wordWithoutBlank() {
        Doc.says("Terms 4", "(a word that needs a blank ahead of it,");
        faultAt(4, "tide5");
        faultAt(4, "grow5+c");
        faultAt(5, " room5");
        faultAt(4, "tide12345");
    }

    private static void fiveDigits() {
        Doc.says("Terms 4", "a NUMBER of more than 4 digits,");
        fine("tide 9999");
        faultAt(5, "tide 10000");
        faultAt(5, "tide 00000");
        faultAt(5, "tide 00001");
        faultAt(7, "tide 1+99999");
        faultAt(6, "tide (123456789012345678901234567890)");
        faultAt(5, "tide " + "1".repeat(91));
    }

    private static void ninthBracket() {
        Doc.says("Terms 4", "the ninth ( that would be open within others,");
        fine("tide " + "(".repeat(8) + "1" + ")".repeat(8));
        faultAt(13, "tide " + "(".repeat(9) + "1" + ")".repeat(9));
        faultAt(13, "tide " + "(".repeat(9));
        faultAt(13, "tide " + "(".repeat(8));
        fine("tide (1)+(1)+(1)+(1)+(1)+(1)+(1)+(1)+(1)+(1)");
        fine("tide " + "(".repeat(8) + "1" + ")".repeat(8) + "+" + "(".repeat(8) + "1" + ")".repeat(8));
        fine("tide " + "(".repeat(7) + "(1)+(2)" + ")".repeat(7));
        faultAt(17, "tide " + "(".repeat(7) + "(1)+((2))" + ")".repeat(7));
        faultAt(21, "tide ( ( ( ( ( ( ( ( ( 1");
        faultAt(29, "tide " + "(1+".repeat(9) + "1");
    }

    private static void ninthNot() {
        Doc.says("Terms 4", "the ninth ! likewise, each by itself);");
        fine("tide " + "!".repeat(8) + "1");
        faultAt(13, "tide " + "!".repeat(9) + "1");
        faultAt(13, "tide " + "!".repeat(8));
        fine("tide !1+!1+!1+!1+!1+!1+!1+!1+!1+!1");
        fine("tide " + "!".repeat(8) + "1*" + "!".repeat(8) + "h");
        fine("tide " + "!".repeat(8) + "(1)+" + "!".repeat(8) + "(1)");
        // each by itself: eight of both
        fine("tide " + "!".repeat(8) + "(".repeat(8) + "1" + ")".repeat(8));
        fine("tide " + "(".repeat(8) + "!".repeat(8) + "1" + ")".repeat(8));
        fine("tide " + "!(".repeat(8) + "1" + ")".repeat(8));
        faultAt(21, "tide " + "!(".repeat(8) + "!1" + ")".repeat(8));
        faultAt(21, "tide " + "!(".repeat(8) + "(1)" + ")".repeat(8));
        faultAt(14, "tide (" + "!".repeat(9) + "1)");
        // seven are open in brackets, and each ! in them is the eighth
        fine("tide " + "!".repeat(7) + "(!1+!2)");
        faultAt(17, "tide " + "!".repeat(7) + "(!1+!!2)");
    }

    private static void tooSoon() {
        Doc.says("Terms 4", "the end (the place behind the last byte), if it comes too soon.");
        faultAt(0, "");
        faultAt(1, " ");
        faultAt(96, " ".repeat(96));
        faultAt(4, "tide");
        faultAt(7, "tide   ");
        faultAt(7, "tide 1+");
        faultAt(10, "tide 1+   ");
        faultAt(6, "tide !");
        faultAt(6, "tide (");
        faultAt(7, "tide (1");
        faultAt(8, "tide (1 ");
        faultAt(8, "tide ((1");
        faultAt(8, "tide 1<(");
        faultAt(96, "tide  1" + "+1".repeat(44) + "+");
        faultAt(96, "tide (1" + "+1".repeat(44) + " ");
    }

    private static void intsWrap() {
        Doc.says("Terms 4", "Ints wrap;");
        gives(99, "8192*8192*32-1");
        gives(0, "8192*8192*32");
        gives(1, "8192*8192*32<0");
        gives(1, "8192*8192*32-1>0");
        gives(0, "8192*8192*64");
        gives(5, "8192*8192*64+5");
        gives(1, "0-8192*8192*32<0");
        gives(1, "(8192*8192*32)/(0-1)<0");
        gives(1, "(8192*8192*32)/(0-1)=8192*8192*32");
        gives(1, "0-8192*8192*32-1>0");
        // 999700029999, less 4294967296 as often as it goes: 3267617327, as an int -1027349969
        gives(1, "9999*9999*9999<0");
        gives(87, "9999*9999*9999+9999*9999*10+2755*9999+2714+87");
    }

    private static void by0() {
        Doc.says("Terms 4", "/ is 0 by 0;");
        gives(0, "7/0");
        gives(0, "0/0");
        gives(5, "5+7/0");
        gives(0, "7/(h-7)");
        gives(9, "9-7/0*3");
        gives(0, "(8192*8192*32)/0");
        TideIsland x = Islands.with("tide 7/h", "grow 9/c");
        Due.due("level", x.sky(0, 0), 0);
        Due.due("level an hour on", x.sky(1, 0), 7);
        x.land(0, 1, 9);
        x.run(1);
        Due.due("corn", x.told(0, 5), 0);
    }

    private static void trueAndFalse() {
        Doc.says("Terms 4", "tests, & | ! give 1 or 0 (what is not 0 is true; both sides are worked out).");
        gives(1, "1<2");
        gives(0, "2<2");
        gives(0, "3<2");
        gives(1, "2=2");
        gives(0, "1=2");
        gives(0, "3=2");
        gives(1, "3>2");
        gives(0, "2>2");
        gives(0, "1>2");
        gives(1, "5|0");
        gives(1, "0|5");
        gives(1, "5|6");
        gives(0, "0|0");
        gives(1, "5&6");
        gives(0, "5&0");
        gives(0, "0&5");
        gives(0, "0&0");
        gives(1, "1&2");
        gives(1, "(0-1)|0");
        gives(1, "(0-1)&(0-2)");
        gives(1, "!0");
        gives(0, "!1");
        gives(0, "!7");
        gives(0, "!(0-1)");
        gives(1, "1|7/0");
        gives(0, "0&7/0");
        gives(3, "1+(5|6)+(5&6)");
        gives(5, "5+(3<2)+(3=2)+(2>3)+(0|0)+(6&0)+!3");
        gives(4, "5+(3<2)-(2<3)");
        gives(4, "5+(2=3)-(2=2)");
        gives(4, "5+(2>3)-(3>2)");
        gives(2, "(5<6)+!0");
    }

    private static void toldLast() {
        Doc.says("Terms 4", "Of a KEY that TEXT counts that was told last.");
        TideIsland x = Islands.with("tide 11", "room 12", "tide 13", "grow 5");
        x.land(0, 1, 20);
        Due.due("tide", x.sky(0, 0), 13);
        Due.due("room", x.told(1, 3), 12);
        Tapes.text(x, "grow 7");
        Tapes.text(x, "room 14");
        x.run(1);
        Due.due("grow", x.told(0, 5), 7);
        Due.due("room", x.told(1, 3), 14);
        Due.due("a text with a fault", Tapes.text(x, "tide 1 1"), -107);
        Due.due("does not count", x.sky(0, 0), 13);
        Due.due("why", x.why(0), 2);
        Due.due("none", new TideIsland().why(0), NONE);
    }
}
