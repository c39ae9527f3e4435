/** Brings whole texts to a tape. */
final class Tapes {
    private Tapes() {
    }

    static void feed(TideIsland x, String all) {
        x.trim(0);
        for (int i = 0; i < all.length(); i += 12) {
            x.feed(four(all, i), four(all, i + 4), four(all, i + 8));
        }
        x.trim(all.length());
    }

    static int text(TideIsland x, String all) {
        feed(x, all);
        return x.text();
    }

    private static int four(String all, int from) {
        int number = 0;
        for (int i = from; i < from + 4; i++) {
            number = number << 8 | (i < all.length() ? all.charAt(i) : 0);
        }
        return number;
    }
}
