import java.lang.reflect.Method;
import java.util.Arrays;
import java.util.Map;
import java.util.Random;
import java.util.TreeMap;

/**
 * Runs of calls drawn by lot (always the same ones) on the class and on the model: their answers are the same. At its end
 * each answer that the document has for a call must have come often enough, so that agreeing says something.
 */
public final class RandomRunsTest {
    private static final int RUNS = 3000, CALLS = 512, ENOUGH = 100;
    private static final int[] EDGES = {Integer.MIN_VALUE, Integer.MAX_VALUE, -1, 0, 1, TideIsland.NONE, TideIsland.BAD,
        24, 25, 29, 30, 48, 99, 100, 199, 200, 32767, 32768, -32769, 99999, 100000, -99999, -100000};
    private static final String[] SIGNS = {"|", "&", "<", "=", ">", "+", "-", "*", "/"};
    private static final String[] SPOILERS = {"h", "d", "s", "c", "t", "0", "7", "24", "9999", "(", ")", "!", "|", "&", "<", "=",
        ">", "+", "-", "*", "/", " ", "tide", "grow", "room", "00012", "hh", "A"};
    private static final String[] KEYS = {"tide", "grow", "room"}, NAMES = {"hds", "ch", "th"};

    /** Each call: the answers that must come up (ok: any other one), and the least and the most of its numbers. */
    private static final String[] FACE = {
        "land ok BAD : 0 29 0 5 0 20", "told ok BAD NONE : 0 29 0 7", "as ok BAD KIND : 0 29 0 5", "turns ok BAD : 0 29 0 5",
        "set ok BAD NONE : 0 29 0 1 0 99", "sea ok BAD : 0 5 0 20", "deal ok :", "seed ok : -999 999",
        "sky ok BAD : 0 199 0 2", "worst ok BAD : 1 99 0 1", "dryFor ok BAD : 0 29", "window ok BAD NONE : 0 29 1 24",
        "owns ok BAD : 0 7 0 199", "richest ok BAD : 0 1", "house ok BAD FULL : 1 99", "houseTold ok BAD NONE : 0 7 0 1",
        "settle ok BAD NONE : 0 7 0 29", "cut ok BAD : 0 199", "lack ok BAD : 0 199", "going ok BAD NO NONE : 0 7 0 29",
        "run ok BAD : 1 99", "feed ok FULL : 0 999 0 999 0 999", "trim ok BAD : 0 96", "text ok FAULT FULL :",
        "textTold ok BAD : 0 13 0 1", "why ok BAD NONE : 0 2", "sheet ok BAD SIZE : 0 3 -1 1 0 24",
        "mark ok BAD NOTHING INDEX KIND : 0 3 0 23 -99999 99999", "pour ok BAD NOTHING : 0 3 0 4", "reads ok BAD NOTHING NONE : 0 3",
        "copy ok BAD NOTHING KIND INDEX : 0 3 0 23 0 3 0 23 0 24", "lay ok BAD NOTHING : 0 4 0 3 0 29",
        "ask ok BAD NOTHING KIND : 0 4 0 5", "item ok BAD NOTHING KIND INDEX : 0 4 0 23", "rest ok BAD NOTHING KIND NO : 0 4 -20 20",
        "tell ok FULL : 0 30", "check ok BAD NO : 1 30", "keep ok :", "back ok NO :", "count ok BAD : 0 9"};
    private static final Map<String, Integer> CAME = new TreeMap<>();
    private static final Map<String, Method[]> METHODS = new TreeMap<>();

    private final Random random;
    private final int run;
    private final TideIsland island = new TideIsland();
    private final Model model = new Model();
    private int made;

    private RandomRunsTest(int run) {
        this.run = run;
        this.random = new Random(run);
    }

    public static void main(String[] args) throws Exception {
        for (String call : FACE) {
            String name = call.substring(0, call.indexOf(' '));
            Class<?>[] types = new Class<?>[limits(call).length / 2];
            Arrays.fill(types, int.class);
            METHODS.put(name, new Method[] {TideIsland.class.getMethod(name, types), Model.class.getMethod(name, types)});
        }
        int runs = args.length > 0 ? Integer.parseInt(args[0]) : RUNS;
        for (int run = 0; run < runs; run++) {
            new RandomRunsTest(run).go();
        }
        allCame();
        Due.end();
    }

    private static void allCame() {
        for (String call : FACE) {
            String[] words = call.substring(0, call.indexOf(':')).trim().split(" ");
            for (int i = 1; i < words.length; i++) {
                int times = CAME.getOrDefault(words[0] + " " + words[i], 0);
                Due.due(words[0] + " has answered " + words[i] + " only " + times + " times: enough", times >= ENOUGH ? 1 : 0, 1);
            }
        }
    }

    private static int[] limits(String call) {
        String numbers = call.substring(call.indexOf(':') + 1).trim();
        return numbers.isEmpty() ? new int[0] : Arrays.stream(numbers.split(" ")).mapToInt(Integer::parseInt).toArray();
    }

    private void go() throws Exception {
        if (random.nextInt(3) > 0) {
            both("seed", random.nextInt());
            both("deal");
        }
        if (run % 100 == 0) {
            goToTheLastHours();
        }
        for (int i = 0; i < CALLS && made < CALLS; i++) {
            switch (random.nextInt(60)) {
                case 0: case 1: case 2: tellText(); break;
                case 3: tellHours(); break;
                case 4: both("run", 1 + random.nextInt(random.nextBoolean() ? 99 : 9)); break;
                case 5: case 6: both("settle", random.nextInt(8), random.nextInt(30)); break;
                case 7: markLevels(); break;
                case 8: twoSheets(); break;
                case 9: landAndNumbersInSlots(); break;
                case 10: tooMuch(); break;
                default: anyCall();
            }
        }
    }

    private void goToTheLastHours() throws Exception {
        for (int i = 0; i < 100; i++) {
            both("run", 99);
        }
        both("run", 60 + random.nextInt(39));
        both("keep");
    }

    private void anyCall() throws Exception {
        String call = FACE[random.nextInt(FACE.length)];
        String name = call.substring(0, call.indexOf(' '));
        boolean changesAll = name.equals("deal") || name.equals("back") || name.equals("keep") || name.equals("run");
        if (changesAll && random.nextInt(4) > 0) {
            return;
        }
        int[] limits = limits(call);
        int[] numbers = new int[limits.length / 2];
        for (int i = 0; i < numbers.length; i++) {
            numbers[i] = number(limits[2 * i], limits[2 * i + 1]);
        }
        both(name, numbers);
    }

    /** Mostly one of least .. most, often one of the first few of them, at times one of its edges or any number. */
    private int number(int least, int most) {
        switch (random.nextInt(24)) {
            case 0: return EDGES[random.nextInt(EDGES.length)];
            case 1: return random.nextBoolean() ? least : most;
            case 2: return random.nextBoolean() ? least - 1 : most + 1;
            case 3: return random.nextInt(4) == 0 ? random.nextInt() : TideIsland.NONE;
            case 4: case 5: case 6: case 7: case 8: case 9: case 10: case 11:
                return least + random.nextInt(Math.min(8, most - least + 1));
            default: return least + random.nextInt(most - least + 1);
        }
    }

    private void tellHours() throws Exception {
        int n = 1 + random.nextInt(30);
        int[] told = model.hoursTold(n);
        int many = random.nextInt(4) == 0 ? random.nextInt(told.length + 1) : told.length;
        for (int i = 0; i < many; i++) {
            both("tell", random.nextInt(90) == 0 ? told[i] + 1 : told[i]);
        }
        if (random.nextInt(6) == 0) {
            both("tell", random.nextInt(31));
        }
        both("check", n);
    }

    /** A sheet of the levels of the next hours, of which some are no number, and at times one is wrong. */
    private void markLevels() throws Exception {
        int sheet = random.nextInt(4);
        int sort = random.nextInt(2);
        int n = random.nextInt(10);
        both("sheet", sheet, sort, n);
        for (int i = 0; i < n; i++) {
            boolean none = sort == 1 && random.nextInt(6) == 0;
            both("mark", sheet, i, none ? TideIsland.NONE : model.sky(i, 0) + (random.nextInt(20) == 0 ? 1 : 0));
        }
        both("reads", sheet);
    }

    /** Two sheets, mostly of one sort, numbers from the one to the other, and what is in a slot then. */
    private void twoSheets() throws Exception {
        int sort = random.nextInt(2);
        int from = random.nextInt(4);
        int to = random.nextInt(4);
        both("sheet", from, sort, random.nextInt(25));
        both("sheet", to, random.nextInt(8) == 0 ? 1 - sort : sort, random.nextInt(25));
        for (int i = 0; i < 8; i++) {
            both("mark", from, random.nextInt(24), random.nextInt(6) == 0 ? TideIsland.NONE : random.nextInt(400) - 100);
        }
        both("copy", from, random.nextInt(12), to, random.nextInt(12), random.nextInt(14) - 1);
        both("copy", to, random.nextInt(6), to, random.nextInt(6), random.nextInt(8));
        int slot = random.nextInt(5);
        both("lay", slot, 2, to);
        for (int i = 0; i < 10; i++) {
            both("item", slot, random.nextInt(14));
        }
        both("pour", to, random.nextInt(5));
    }

    private void landAndNumbersInSlots() throws Exception {
        int slot = random.nextInt(5);
        int other = random.nextInt(5);
        both("lay", slot, 1, random.nextInt(30));
        both("lay", other, 3, random.nextBoolean() ? random.nextInt() : EDGES[random.nextInt(EDGES.length)]);
        for (int i = 0; i < 6; i++) {
            both("ask", slot, i);
            both("rest", other, random.nextInt(9) - 4);
        }
    }

    /** More of one thing than there is room for. */
    private void tooMuch() throws Exception {
        int lot = random.nextInt(8);
        int times = lot == 0 ? 61 : 9;
        for (int i = 0; i < times; i++) {
            if (lot == 0) {
                both("tell", random.nextInt(31));
            } else if (lot == 1) {
                both("feed", random.nextInt(), random.nextInt(), random.nextInt());
            } else if (lot == 2) {
                tellText();
            } else {
                both("house", 1 + random.nextInt(99));
                both("settle", random.nextInt(8), random.nextInt(30));
                both("going", random.nextInt(8), random.nextInt(30));
            }
        }
    }

    private void tellText() throws Exception {
        int key = random.nextInt(3);
        StringBuilder text = new StringBuilder(KEYS[key]);
        text.append(random.nextInt(12) == 0 ? "" : " ");
        expression(text, 0, NAMES[key]);
        for (int i = random.nextInt(4); i > 2; i--) {
            spoil(text);
        }
        String all = text.substring(0, Math.min(96, text.length()));
        both("trim", 0);
        for (int i = 0; i < all.length(); i += 12) {
            both("feed", four(all, i), four(all, i + 4), four(all, i + 8));
        }
        both("trim", all.length());
        both("text");
        both("textTold", model.count(6) - 1, 1);
        both("why", key);
    }

    private void expression(StringBuilder text, int depth, String names) {
        int lot = random.nextInt(depth > 7 ? 2 : 7);
        if (lot == 0) {
            text.append(names.charAt(random.nextInt(names.length())));
        } else if (lot == 1) {
            text.append(random.nextInt(random.nextBoolean() ? 10 : 10000));
        } else if (lot == 2) {
            text.append("!");
            expression(text, depth + 1, names);
        } else if (lot == 3) {
            text.append("(");
            expression(text, depth + 1, names);
            text.append(")");
        } else {
            expression(text, depth + 2, names);
            text.append(random.nextInt(3) == 0 ? " " : "").append(SIGNS[random.nextInt(SIGNS.length)]);
            expression(text, depth + 2, names);
        }
    }

    private void spoil(StringBuilder text) {
        int place = random.nextInt(text.length() + 1);
        if (random.nextInt(3) == 0 && place < text.length()) {
            text.deleteCharAt(place);
        } else if (random.nextInt(10) == 0) {
            text.insert(place, (char) random.nextInt(256));
        } else if (random.nextInt(10) == 0) {
            text.insert(place, random.nextBoolean() ? "!".repeat(9) : "(".repeat(9));
        } else {
            text.insert(place, SPOILERS[random.nextInt(SPOILERS.length)]);
        }
    }

    private static int four(String all, int from) {
        int number = 0;
        for (int i = from; i < from + 4; i++) {
            number = number << 8 | (i < all.length() ? all.charAt(i) : 'x');
        }
        return number;
    }

    /** What an object answers behind its 512th call is free: no such call is made. */
    private void both(String name, int... numbers) throws Exception {
        if (made >= CALLS) {
            return;
        }
        made++;
        Object[] boxed = Arrays.stream(numbers).boxed().toArray();
        Method[] methods = METHODS.get(name);
        int got = (Integer) methods[0].invoke(island, boxed);
        int want = (Integer) methods[1].invoke(model, boxed);
        Due.due("run " + run + ": " + name + Arrays.toString(numbers), got, want);
        CAME.merge(name + " " + sortOf(name, want), 1, Integer::sum);
    }

    private static String sortOf(String name, int answer) {
        switch (answer) {
            case TideIsland.BAD: return "BAD";
            case TideIsland.NO: return "NO";
            case TideIsland.FULL: return "FULL";
            case TideIsland.NONE: return "NONE";
            case TideIsland.NOTHING: return "NOTHING";
            case TideIsland.KIND: return "KIND";
            case TideIsland.INDEX: return "INDEX";
            case TideIsland.SIZE: return "SIZE";
            default: return name.equals("text") && answer < 0 ? "FAULT" : "ok";
        }
    }
}
