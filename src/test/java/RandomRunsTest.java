import java.lang.reflect.Method;
import java.util.Comparator;
import java.util.Random;

/** Runs of calls drawn by lot (always the same ones) on the class and on the model: their answers are the same. */
public final class RandomRunsTest {
    private static final int RUNS = 3000, CALLS = 512;
    private static final int[] EDGES = {Integer.MIN_VALUE, Integer.MAX_VALUE, -1, 0, 1, TideIsland.NONE, TideIsland.BAD,
        24, 25, 29, 30, 48, 99, 100, 199, 200, 32767, 32768, -32769, 99999, 100000, -99999, -100000};
    private static final String[] WORDS = {"h", "d", "s", "c", "t", "0", "1", "7", "10", "24", "9999", "(", ")", "!", "|", "&",
        "<", "=", ">", "+", "-", "*", "/", " ", "tide", "grow", "room", "00012", "hh", "A"};

    private final Random random;
    private final int run;
    private final TideIsland island = new TideIsland();
    private final Model model = new Model();
    private final Method[] calls;
    private int made;

    private RandomRunsTest(int run, Method[] calls) {
        this.run = run;
        this.random = new Random(run);
        this.calls = calls;
    }

    public static void main(String[] args) throws Exception {
        Method[] calls = TideIsland.class.getDeclaredMethods();
        calls = java.util.Arrays.stream(calls).filter(m -> java.lang.reflect.Modifier.isPublic(m.getModifiers()))
            .sorted(Comparator.comparing(Method::getName)).toArray(Method[]::new);
        for (int run = 0; run < RUNS; run++) {
            new RandomRunsTest(run, calls).go();
        }
        Due.end();
    }

    private void go() throws Exception {
        if (random.nextInt(3) > 0) {
            both("seed", random.nextInt());
            both("deal");
        }
        for (int i = 0; i < CALLS && made < CALLS; i++) {
            int lot = random.nextInt(40);
            if (lot < 2) {
                tellText();
            } else if (lot == 2) {
                tellHours();
            } else if (lot == 3) {
                both("run", 1 + random.nextInt(99));
            } else if (lot == 4) {
                both("settle", random.nextInt(8), random.nextInt(30));
            } else {
                anyCall();
            }
        }
    }

    private void anyCall() throws Exception {
        Method call = calls[random.nextInt(calls.length)];
        if (call.getName().equals("deal") && random.nextInt(4) > 0) {
            return;
        }
        int[] numbers = new int[call.getParameterCount()];
        for (int i = 0; i < numbers.length; i++) {
            numbers[i] = number();
        }
        both(call.getName(), numbers);
    }

    private int number() {
        switch (random.nextInt(10)) {
            case 0: return EDGES[random.nextInt(EDGES.length)];
            case 1: return random.nextInt(100);
            case 2: return random.nextInt(30);
            case 3: return random.nextInt(200);
            case 4: return random.nextInt(10);
            case 5: return random.nextInt(20) == 0 ? random.nextInt() : 0;
            default: return random.nextInt(6);
        }
    }

    private void tellHours() throws Exception {
        int n = 1 + random.nextInt(30);
        int[] told = model.hoursTold(n);
        int many = random.nextInt(4) == 0 ? random.nextInt(told.length + 1) : told.length;
        for (int i = 0; i < many; i++) {
            both("tell", random.nextInt(90) == 0 ? told[i] + 1 : told[i]);
        }
        if (random.nextInt(6) == 0) {
            both("tell", random.nextInt(31));
        }
        both("check", n);
    }

    private void tellText() throws Exception {
        StringBuilder text = new StringBuilder(WORDS[24 + random.nextInt(3)]);
        text.append(random.nextInt(6) == 0 ? "" : " ");
        expression(text, 0);
        for (int i = random.nextInt(3); i > 0; i--) {
            spoil(text);
        }
        String all = text.substring(0, Math.min(96, text.length()));
        both("trim", 0);
        for (int i = 0; i < all.length(); i += 12) {
            both("feed", four(all, i), four(all, i + 4), four(all, i + 8));
        }
        both("trim", all.length());
        both("text");
        for (int key = 0; key < 3; key++) {
            both("why", key);
        }
    }

    private void expression(StringBuilder text, int depth) {
        int lot = random.nextInt(depth > 5 ? 2 : 6);
        if (lot == 0) {
            text.append(WORDS[random.nextInt(5)]);
        } else if (lot == 1) {
            text.append(random.nextInt(random.nextBoolean() ? 10 : 10000));
        } else if (lot == 2) {
            text.append("!");
            expression(text, depth + 1);
        } else if (lot == 3) {
            text.append("(");
            expression(text, depth + 1);
            text.append(")");
        } else {
            expression(text, depth + 1);
            text.append(random.nextInt(3) == 0 ? " " : "").append(WORDS[14 + random.nextInt(9)]);
            expression(text, depth + 1);
        }
    }

    private void spoil(StringBuilder text) {
        int place = random.nextInt(text.length() + 1);
        if (random.nextInt(3) == 0 && place < text.length()) {
            text.deleteCharAt(place);
        } else if (random.nextInt(10) == 0) {
            text.insert(place, (char) random.nextInt(256));
        } else {
            text.insert(place, WORDS[random.nextInt(WORDS.length)]);
        }
    }

    private static int four(String all, int from) {
        int number = 0;
        for (int i = from; i < from + 4; i++) {
            number = number << 8 | (i < all.length() ? all.charAt(i) : 'x');
        }
        return number;
    }

    /** What an object answers behind its 512th call is free: no such call is made. */
    private void both(String name, int... numbers) throws Exception {
        if (made >= CALLS) {
            return;
        }
        made++;
        Class<?>[] types = new Class<?>[numbers.length];
        Object[] boxed = new Object[numbers.length];
        for (int i = 0; i < numbers.length; i++) {
            types[i] = int.class;
            boxed[i] = numbers[i];
        }
        int got = (Integer) TideIsland.class.getMethod(name, types).invoke(island, boxed);
        int want = (Integer) Model.class.getDeclaredMethod(name, types).invoke(model, boxed);
        Due.due("run " + run + ": " + name + java.util.Arrays.toString(numbers), got, want);
    }
}
