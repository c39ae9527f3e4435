import java.util.function.IntUnaryOperator;

/** Counts and prints the answers that are not as due; each test ends with exit code 1 if there was one. */
final class Due {
    private static int wrong;
    private static int asked;
    /** The sentence of the document that the answers are about, if a test has named one. */
    private static String sentence = "";
    private static int askedAhead;

    private Due() {
    }

    static void due(String call, int got, int want) {
        asked++;
        if (got != want) {
            fail(call + " answered " + got + ", due is " + want);
        }
    }

    /** Each number of a few right outside and far outside least .. most gets one and the same answer. */
    static void outside(String call, int least, int most, int want, IntUnaryOperator asks) {
        int[] numbers = {least - 1, most + 1, least - 32, most + 32, least - 256, most + 256, -1000, 1000000,
            Integer.MIN_VALUE, Integer.MAX_VALUE, TideIsland.BAD, TideIsland.NO};
        for (int v : numbers) {
            if (v < least || v > most) {
                due(call + " with " + v, asks.applyAsInt(v), want);
            }
        }
    }

    /** The answers from here on are about a sentence of the document. */
    static void about(String said) {
        if (!sentence.isEmpty() && asked == askedAhead) {
            fail("no answer was asked for");
        }
        sentence = said;
        askedAhead = asked;
    }

    static void fail(String what) {
        wrong++;
        if (wrong <= 50) {
            System.out.println((sentence.isEmpty() ? "" : sentence + "\n    ") + what);
        }
    }

    static void end() {
        about("");
        System.out.println(asked + " answers, " + wrong + " not as due");
        if (wrong != 0) {
            System.exit(1);
        }
    }
}
