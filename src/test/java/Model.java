import java.util.ArrayList;
import java.util.Arrays;
import java.util.List;

/**
 * The document once more, in another way than the class does it: kinds of land as classes, walks instead of bits,
 * texts read by descent into trees, rows that the machine itself watches. Only for tests.
 */
final class Model {
    private static final int BAD = TideIsland.BAD, NO = TideIsland.NO, FULL = TideIsland.FULL, NONE = TideIsland.NONE;
    private static final int NOTHING = TideIsland.NOTHING, KIND = TideIsland.KIND, INDEX = TideIsland.INDEX, SIZE = TideIsland.SIZE;
    private static final Class<?>[] KINDS = {Land.class, Field.class, Walled.class, Raised.class, Dyked.class, Stone.class};

    static class Land {
        int height;
        int corn;
        int owner = NONE;
        int top(World w) { return height; }
        int room(World w) { return w.law(2, 10, 0, 99, top(w), height, 0); }
        int worth() { return height; }
    }

    static class Field extends Land {
        @Override int room(World w) { return Math.max(0, super.room(w) - corn / 10); }
        @Override int worth() { return super.worth() + 3; }
    }

    static class Raised extends Field {
        @Override int top(World w) { return super.top(w) + 1; }
        @Override int room(World w) { return super.room(w) / 2; }
        @Override int worth() { return super.worth() * 2; }
    }

    static class Walled extends Land {
        @Override int top(World w) { return super.top(w) + 2; }
        @Override int room(World w) { return Math.max(0, super.room(w) - 4); }
        @Override int worth() { return 20 - height; }
    }

    static class Dyked extends Walled {
        @Override int top(World w) { return super.top(w) + 1; }
        @Override int worth() { return super.worth() + 9; }
    }

    static class Stone extends Land {
        @Override int top(World w) { return super.top(w) + w.sea[5]; }
        @Override int room(World w) { return 1; }
        @Override int worth() { return 50; }
    }

    private static Land make(int kind) {
        switch (kind) {
            case 1: return new Field();
            case 2: return new Walled();
            case 3: return new Raised();
            case 4: return new Dyked();
            case 5: return new Stone();
            default: return new Land();
        }
    }

    private static Land turned(Land old, int kind) {
        Land next = make(kind);
        next.height = old.height;
        next.corn = old.corn;
        next.owner = old.owner;
        return next;
    }

    private static int kindOf(Land land) {
        return Arrays.asList(KINDS).indexOf(land.getClass());
    }

    interface Tree {
        int of(int[] names);
    }

    static final class Text {
        int key;
        int operands;
        Tree tree;
    }

    static final class World {
        Land[] lands = new Land[30];
        int[] sea = {2, 8, 3, 0, 20, 1};
        int hour;
        int z = 1;
        int lost;
        List<int[]> houses = new ArrayList<>();
        List<Text> texts = new ArrayList<>();

        World() {
            for (int i = 0; i < 30; i++) lands[i] = new Land();
        }

        World twin() {
            World t = new World();
            for (int i = 0; i < 30; i++) t.lands[i] = turned(lands[i], kindOf(lands[i]));
            t.sea = sea.clone();
            t.hour = hour;
            t.z = z;
            t.lost = lost;
            for (int[] h : houses) t.houses.add(h.clone());
            t.texts.addAll(texts);
            return t;
        }

        int why(int key) {
            int found = NONE;
            for (int i = 0; i < texts.size(); i++) if (texts.get(i).key == key) found = i;
            return found;
        }

        int law(int key, int without, int least, int most, int... names) {
            int text = why(key);
            if (text == NONE) return without;
            return Math.max(least, Math.min(most, texts.get(text).tree.of(names)));
        }

        int level(int t) {
            int time = hour + t;
            int h = time % 12;
            int r = h > 6 ? 12 - h : h;
            int plain = (sea[0] * (6 - r) + sea[1] * r) / 6;
            if (time / 24 % 15 == 0) plain += sea[2];
            plain += sea[3];
            return law(0, plain, 0, 40, time % 24, time / 24, sea[3]);
        }

        boolean dry(int cell, int t) {
            return lands[cell].top(this) > level(t);
        }

        int size(int t) {
            int size = 0;
            for (int i = 0; i < 30; i++) if (dry(i, t)) size++;
            return size;
        }

        List<Integer> beside(int cell) {
            List<Integer> all = new ArrayList<>();
            int row = cell / 6;
            int column = cell % 6;
            if (row < 4) all.add(cell + 6);
            if (column < 5) all.add(cell + 1);
            if (row > 0) all.add(cell - 6);
            if (column > 0) all.add(cell - 1);
            return all;
        }

        void walk(int cell, int t, boolean[] seen) {
            if (seen[cell] || !dry(cell, t)) return;
            seen[cell] = true;
            for (int next : beside(cell)) walk(next, t, seen);
        }

        int parts(int t) {
            boolean[] seen = new boolean[30];
            int parts = 0;
            for (int i = 0; i < 30; i++) {
                if (!seen[i] && dry(i, t)) {
                    parts++;
                    walk(i, t, seen);
                }
            }
            return parts;
        }

        int peak() {
            int peak = 0;
            for (int i = 29; i >= 0; i--) if (lands[i].top(this) >= lands[peak].top(this)) peak = i;
            return peak;
        }

        int has(int owner, int t) {
            int has = 0;
            for (int i = 0; i < 30; i++) if (lands[i].owner == owner && dry(i, t)) has++;
            return has;
        }

        int draw() {
            z = z * 1103515245 + 12345;
            return z >>> 8;
        }

        int allCorn() {
            int all = 0;
            for (Land land : lands) all += land.corn;
            return all;
        }

        void hourGoes() {
            for (int i = 0; i < 30; i++) {
                if (lands[i] instanceof Field) {
                    int more = law(1, 1, 0, 9, lands[i].corn, lands[i].height, 0);
                    lands[i].corn = dry(i, 0) ? Math.min(99, lands[i].corn + more) : 0;
                }
            }
            for (int[] house : houses) {
                if (house[1] == NONE || dry(house[1], 0)) continue;
                int to = NONE;
                for (int next : beside(house[1])) {
                    if (to == NONE && dry(next, 0)) to = next;
                }
                house[1] = to;
                if (to == NONE) lost += house[0];
            }
            if (hour % 12 == 0) {
                if (draw() % 100 < sea[4]) sea[3] = Math.min(9, sea[3] + 1);
                else sea[3] = Math.max(0, sea[3] - 1);
            }
            hour++;
        }
    }

    private static final class Fault extends RuntimeException {
        private static final long serialVersionUID = 1;
        final int place;
        Fault(int place) { this.place = place; }
    }

    /** Reads by descent, rule by rule of the grammar. */
    private static final class Descent {
        final String all;
        final List<Integer> starts = new ArrayList<>();
        final List<String> words = new ArrayList<>();
        int at;
        int brackets;
        int nots;
        int operands;
        String names = "";

        Descent(String all) {
            this.all = all;
            java.util.regex.Matcher m = java.util.regex.Pattern.compile("[a-z]+|[0-9]+|[^ ]", java.util.regex.Pattern.DOTALL).matcher(all);
            while (m.find()) {
                starts.add(m.start());
                words.add(m.group());
            }
        }

        String word() {
            return at < words.size() ? words.get(at) : "";
        }

        Fault fault() {
            return new Fault(at < words.size() ? starts.get(at) : all.length());
        }

        static boolean isWord(String w) {
            return w.matches("[a-z]+|[0-9]+");
        }

        Text text() {
            Text text = new Text();
            text.key = Arrays.asList("tide", "grow", "room").indexOf(word());
            if (text.key < 0) throw fault();
            names = new String[] {"hds", "ch", "th"}[text.key];
            at++;
            if (isWord(word()) && starts.get(at) == starts.get(at - 1) + words.get(at - 1).length()) throw fault();
            text.tree = or();
            if (at < words.size()) throw fault();
            text.operands = operands;
            return text;
        }

        Tree or() {
            Tree left = and();
            while (word().equals("|")) {
                at++;
                Tree a = left;
                Tree b = and();
                left = n -> a.of(n) != 0 | b.of(n) != 0 ? 1 : 0;
            }
            return left;
        }

        Tree and() {
            Tree left = test();
            while (word().equals("&")) {
                at++;
                Tree a = left;
                Tree b = test();
                left = n -> a.of(n) != 0 & b.of(n) != 0 ? 1 : 0;
            }
            return left;
        }

        Tree test() {
            Tree a = sum();
            String sign = word();
            if (!sign.equals("<") && !sign.equals("=") && !sign.equals(">")) return a;
            at++;
            Tree b = sum();
            return n -> {
                int order = Integer.compare(a.of(n), b.of(n));
                return order == "<=>".indexOf(sign) - 1 ? 1 : 0;
            };
        }

        Tree sum() {
            Tree left = term();
            while (word().equals("+") || word().equals("-")) {
                boolean plus = word().equals("+");
                at++;
                Tree a = left;
                Tree b = term();
                left = n -> plus ? a.of(n) + b.of(n) : a.of(n) - b.of(n);
            }
            return left;
        }

        Tree term() {
            Tree left = piece();
            while (word().equals("*") || word().equals("/")) {
                boolean times = word().equals("*");
                at++;
                Tree a = left;
                Tree b = piece();
                left = n -> {
                    if (times) return a.of(n) * b.of(n);
                    return b.of(n) == 0 ? 0 : a.of(n) / b.of(n);
                };
            }
            return left;
        }

        Tree piece() {
            String w = word();
            if (w.equals("!")) {
                if (nots == 8) throw fault();
                nots++;
                at++;
                Tree a = piece();
                nots--;
                return n -> a.of(n) == 0 ? 1 : 0;
            }
            if (w.equals("(")) {
                if (brackets == 8) throw fault();
                brackets++;
                at++;
                Tree a = or();
                if (!word().equals(")")) throw fault();
                at++;
                brackets--;
                return a;
            }
            if (w.matches("[0-9]{1,4}")) {
                at++;
                operands++;
                int number = Integer.parseInt(w);
                return n -> number;
            }
            if (w.length() == 1 && names.contains(w)) {
                at++;
                operands++;
                int name = names.indexOf(w);
                return n -> n[name];
            }
            throw fault();
        }
    }

    private World now = new World();
    private World image;
    private String tape = "";
    private final Object[] sheets = new Object[4];
    private final Object[] slots = new Object[5];
    private List<Integer> waiting = new ArrayList<>();

    private static boolean out(int v, int least, int most) {
        return v < least || v > most;
    }

    public int land(int cell, int kind, int height) {
        if (out(cell, 0, 29) || out(kind, 0, 5) || out(height, 0, 20)) return BAD;
        int was = turns(cell, kind);
        now.lands[cell].height = height;
        return was;
    }

    public int told(int cell, int what) {
        if (out(cell, 0, 29) || out(what, 0, 7)) return BAD;
        Land land = now.lands[cell];
        return new int[] {kindOf(land), land.height, land.top(now), land.room(now), land.worth(), land.corn, land.owner,
            now.dry(cell, 0) ? 1 : 0}[what];
    }

    public int as(int cell, int kind) {
        if (out(cell, 0, 29) || out(kind, 0, 5)) return BAD;
        try {
            return ((Land) KINDS[kind].cast(now.lands[cell])).height;
        } catch (ClassCastException e) {
            return KIND;
        }
    }

    public int turns(int cell, int kind) {
        if (out(cell, 0, 29) || out(kind, 0, 5)) return BAD;
        int was = kindOf(now.lands[cell]);
        now.lands[cell] = turned(now.lands[cell], kind);
        return was;
    }

    public int set(int cell, int what, int v) {
        if (out(cell, 0, 29) || out(what, 0, 1)) return BAD;
        Land land = now.lands[cell];
        if (what == 0) {
            if (out(v, 0, 99)) return BAD;
            int was = land.corn;
            land.corn = v;
            return was;
        }
        if (v != NONE && out(v, 0, 7)) return BAD;
        int was = land.owner;
        land.owner = v;
        return was;
    }

    public int sea(int what, int v) {
        if (out(what, 0, 5) || out(v, 0, new int[] {20, 20, 9, 9, 100, 20}[what])) return BAD;
        int was = now.sea[what];
        now.sea[what] = v;
        return was;
    }

    public int deal() {
        for (int i = 0; i < 30; i++) {
            Land land = make(now.draw() % 6);
            land.height = now.draw() % 21;
            int owner = now.draw() % 9;
            land.owner = owner == 8 ? NONE : owner;
            now.lands[i] = land;
        }
        return now.size(0);
    }

    public int seed(int v) {
        int was = now.z;
        now.z = v;
        return was;
    }

    public int sky(int t, int what) {
        if (out(t, 0, 199) || out(what, 0, 2)) return BAD;
        return what == 0 ? now.level(t) : what == 1 ? now.size(t) : now.parts(t);
    }

    public int worst(int n, int what) {
        if (out(n, 1, 99) || out(what, 0, 1)) return BAD;
        int worst = n - 1;
        for (int t = n - 1; t >= 0; t--) if (now.size(t) <= now.size(worst)) worst = t;
        return what == 0 ? worst : now.size(worst);
    }

    public int dryFor(int cell) {
        if (out(cell, 0, 29)) return BAD;
        for (int t = 0; t < 48; t++) if (!now.dry(cell, t)) return t;
        return 48;
    }

    public int window(int cell, int n) {
        if (out(cell, 0, 29) || out(n, 1, 24)) return BAD;
        for (int t = 0; t <= 99; t++) {
            int dry = 0;
            for (int i = 0; i < n; i++) if (now.dry(cell, t + i)) dry++;
            if (dry == n) return t;
        }
        return NONE;
    }

    public int owns(int owner, int t) {
        if (out(owner, 0, 7) || out(t, 0, 199)) return BAD;
        return now.has(owner, t);
    }

    public int richest(int what) {
        if (out(what, 0, 1)) return BAD;
        int[] all = new int[8];
        for (int t = 0; t <= 23; t++) for (int o = 0; o < 8; o++) all[o] += now.has(o, t);
        int best = 0;
        for (int o = 1; o < 8; o++) if (all[o] > all[best]) best = o;
        return what == 0 ? best : all[best];
    }

    public int house(int many) {
        if (out(many, 1, 99)) return BAD;
        if (now.houses.size() == 8) return FULL;
        now.houses.add(new int[] {many, NONE});
        return now.houses.size() - 1;
    }

    public int houseTold(int house, int what) {
        if (out(house, 0, now.houses.size() - 1) || out(what, 0, 1)) return BAD;
        return now.houses.get(house)[what];
    }

    public int settle(int house, int cell) {
        if (out(house, 0, now.houses.size() - 1) || cell != NONE && out(cell, 0, 29)) return BAD;
        int was = now.houses.get(house)[1];
        now.houses.get(house)[1] = cell;
        return was;
    }

    public int cut(int t) {
        if (out(t, 0, 199)) return BAD;
        boolean[] main = new boolean[30];
        now.walk(now.peak(), t, main);
        int bits = 0;
        for (int i = 0; i < now.houses.size(); i++) {
            int cell = now.houses.get(i)[1];
            if (cell != NONE && now.dry(cell, t) && !main[cell]) bits += 1 << i;
        }
        return bits;
    }

    public int lack(int t) {
        if (out(t, 0, 199)) return BAD;
        int lack = 0;
        for (int[] house : now.houses) lack += house[0];
        for (int i = 0; i < 30; i++) if (now.dry(i, t)) lack -= now.lands[i].room(now);
        return Math.max(0, lack);
    }

    public int going(int house, int cell) {
        if (out(house, 0, now.houses.size() - 1) || out(cell, 0, 29)) return BAD;
        int from = now.houses.get(house)[1];
        if (from == NONE) return NO;
        boolean[] here = new boolean[30];
        here[from] = now.dry(from, 0);
        for (int t = 0; t <= 48; t++) {
            if (here[cell]) return t;
            boolean[] next = new boolean[30];
            for (int i = 0; i < 30; i++) {
                if (!now.dry(i, t + 1)) continue;
                next[i] = here[i];
                for (int b : now.beside(i)) next[i] |= here[b];
            }
            here = next;
        }
        return NONE;
    }

    public int run(int n) {
        if (out(n, 1, 99)) return BAD;
        int until = Math.min(9999, now.hour + n);
        while (now.hour < until) now.hourGoes();
        return now.lost;
    }

    public int feed(int a, int b, int c) {
        if (tape.length() > 84) return FULL;
        for (int v : new int[] {a, b, c}) {
            for (byte x : java.nio.ByteBuffer.allocate(4).putInt(v).array()) tape += (char) Byte.toUnsignedInt(x);
        }
        return tape.length();
    }

    public int trim(int n) {
        if (out(n, 0, tape.length())) return BAD;
        tape = tape.substring(0, n);
        return n;
    }

    public int text() {
        String all = tape;
        tape = "";
        try {
            Text text = new Descent(all).text();
            if (now.texts.size() == 14) return FULL;
            now.texts.add(text);
            return now.texts.size() - 1;
        } catch (Fault f) {
            return -100 - f.place;
        }
    }

    public int textTold(int text, int what) {
        if (out(text, 0, now.texts.size() - 1) || out(what, 0, 1)) return BAD;
        return what == 0 ? now.texts.get(text).key : now.texts.get(text).operands;
    }

    public int why(int key) {
        return out(key, 0, 2) ? BAD : now.why(key);
    }

    public int sheet(int sheet, int sort, int n) {
        if (out(sheet, 0, 3) || out(sort, -1, 1)) return BAD;
        if (sort == -1) {
            sheets[sheet] = null;
            return 0;
        }
        if (n > 24) return BAD;
        try {
            sheets[sheet] = sort == 0 ? (Object) new short[n] : (Object) new float[n];
        } catch (NegativeArraySizeException e) {
            return SIZE;
        }
        return n;
    }

    public int mark(int sheet, int place, int v) {
        if (out(sheet, 0, 3)) return BAD;
        if (sheets[sheet] == null) return NOTHING;
        if (out(place, 0, java.lang.reflect.Array.getLength(sheets[sheet]) - 1)) return INDEX;
        if (sheets[sheet] instanceof short[] row) {
            if (v == NONE) return KIND;
            row[place] = (short) v;
        } else if (sheets[sheet] instanceof float[] row) {
            if (v != NONE && out(v, -99999, 99999)) return BAD;
            row[place] = v == NONE ? Float.NaN : v;
        }
        return 1;
    }

    private static int sizeOf(Object row) {
        return row instanceof short[] s ? s.length : ((float[]) row).length;
    }

    private static int placeOf(Object row, int place) {
        if (row instanceof short[] s) return s[place];
        float f = ((float[]) row)[place];
        return Float.isNaN(f) ? NONE : (int) f;
    }

    public int pour(int sheet, int row) {
        if (out(sheet, 0, 3) || out(row, 0, 4)) return BAD;
        if (sheets[sheet] == null) return NOTHING;
        int otherwise = 0;
        for (int i = 0; i < Math.min(6, sizeOf(sheets[sheet])); i++) {
            int v = placeOf(sheets[sheet], i);
            if (v == NONE) continue;
            Land land = now.lands[row * 6 + i];
            int was = land.corn;
            land.corn = Math.max(0, Math.min(99, v));
            if (land.corn != was) otherwise++;
        }
        return otherwise;
    }

    public int reads(int sheet) {
        if (out(sheet, 0, 3)) return BAD;
        if (sheets[sheet] == null) return NOTHING;
        for (int i = 0; i < sizeOf(sheets[sheet]); i++) {
            int v = placeOf(sheets[sheet], i);
            if (v != NONE && v != now.level(i)) return i;
        }
        return NONE;
    }

    public int copy(int from, int place, int to, int at, int many) {
        if (out(from, 0, 3) || out(to, 0, 3)) return BAD;
        try {
            System.arraycopy(sheets[from], place, sheets[to], at, many);
            return many;
        } catch (NullPointerException e) {
            return NOTHING;
        } catch (ArrayStoreException e) {
            return KIND;
        } catch (IndexOutOfBoundsException e) {
            return INDEX;
        }
    }

    public int lay(int slot, int thing, int k) {
        if (out(slot, 0, 4) || out(thing, 0, 3)) return BAD;
        if (thing == 1 && out(k, 0, 29) || thing == 2 && out(k, 0, 3)) return BAD;
        if (thing == 2 && sheets[k] == null) return NOTHING;
        Object was = slots[slot];
        if (thing == 0) slots[slot] = null;
        if (thing == 1) slots[slot] = turned(now.lands[k], kindOf(now.lands[k]));
        if (thing == 2) slots[slot] = sheets[k] instanceof short[] s ? (Object) s.clone() : (Object) ((float[]) sheets[k]).clone();
        if (thing == 3) slots[slot] = k;
        return was == null ? 0 : was instanceof Land ? 1 : was instanceof Integer ? 3 : 2;
    }

    public int ask(int slot, int kind) {
        if (out(slot, 0, 4) || out(kind, 0, 5)) return BAD;
        if (slots[slot] == null) return NOTHING;
        try {
            return ((Land) KINDS[kind].cast(slots[slot])).worth();
        } catch (ClassCastException e) {
            return KIND;
        }
    }

    public int item(int slot, int place) {
        if (out(slot, 0, 4)) return BAD;
        if (slots[slot] == null) return NOTHING;
        if (slots[slot] instanceof Land || slots[slot] instanceof Integer) return KIND;
        if (out(place, 0, sizeOf(slots[slot]) - 1)) return INDEX;
        int v = placeOf(slots[slot], place);
        return v == NONE ? KIND : v;
    }

    public int rest(int slot, int n) {
        if (out(slot, 0, 4)) return BAD;
        if (slots[slot] == null) return NOTHING;
        if (!(slots[slot] instanceof Integer)) return KIND;
        try {
            return (Integer) slots[slot] % n;
        } catch (ArithmeticException e) {
            return NO;
        }
    }

    public int tell(int v) {
        if (waiting.size() == 60) return FULL;
        waiting.add(v);
        return waiting.size();
    }

    public int check(int n) {
        List<Integer> given = waiting;
        waiting = new ArrayList<>();
        if (out(n, 1, 30)) return BAD;
        if (image == null) return NO;
        World trial = image.twin();
        List<Integer> right = new ArrayList<>();
        for (int i = 0; i < n && trial.hour < 9999; i++) {
            right.add(trial.size(0));
            trial.hourGoes();
            right.add(trial.allCorn());
        }
        if (given.equals(right)) return 0;
        int same = 0;
        while (same < given.size() && same < right.size() && given.get(same).equals(right.get(same))) same++;
        return 1 + same;
    }

    public int keep() {
        image = now.twin();
        return image.houses.size();
    }

    public int back() {
        if (image == null) return NO;
        now = image.twin();
        return now.houses.size();
    }

    public int count(int what) {
        if (out(what, 0, 9)) return BAD;
        return new int[] {now.hour, now.houses.size(), now.allCorn(), now.lost, now.sea[3], now.peak(), now.texts.size(),
            waiting.size(), tape.length(), now.z}[what];
    }

    /** What check(n) is due to be told now, for runs of calls that tell it. */
    int[] hoursTold(int n) {
        if (image == null) return new int[0];
        World trial = image.twin();
        int[] told = new int[2 * Math.min(n, 9999 - trial.hour)];
        for (int i = 0; i < told.length; i += 2) {
            told[i] = trial.size(0);
            trial.hourGoes();
            told[i + 1] = trial.allCorn();
        }
        return told;
    }
}
