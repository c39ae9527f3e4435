import java.util.Arrays;

/** An island in a sea that comes and goes: its land, houses, owners and laws, by hours. */
public final class TideIsland {
    public static final int BAD = -1000000001, NO = -1000000002, FULL = -1000000003, NONE = -1000000005, NOTHING = -1000000011, KIND = -1000000012, INDEX = -1000000013, SIZE = -1000000014;

    private static final int CELLS = 30, ROWS = 5, COLUMNS = 6;
    private static final int LAND = 0, FIELD = 1, WALLED = 2, RAISED = 3, DYKED = 4, STONE = 5;
    private static final int MOST_HEIGHT = 20, MOST_CORN = 99, MOST_ROOM = 99, MOST_GROWTH = 9;
    private static final int MOST_LEVEL = 40, MOST_STORM = 9, OWNERS = 8;
    private static final int LOW = 0, HIGH = 1, SPRING = 2, STORM = 3, CHANCE = 4, STONES = 5;
    private static final int[] MOST_OF_SEA = {20, 20, 9, 9, 100, 20};
    private static final int LAST_HOUR = 9999, MOST_HOURS_ON = 199, MOST_RUN = 99;
    private static final int MOST_WORST = 99, MOST_DRY_FOR = 48, MOST_GOING = 48;
    private static final int LAST_WINDOW = 99, LONGEST_WINDOW = 24, DAY = 24;
    private static final int HOUSES = 8, MOST_MANY = 99;
    private static final int TIDE = 0, GROW = 1, ROOM = 2;
    private static final int TEXTS = 14, TAPE = 96, FED = 12, FAULT = -100, MOST_NESTED = 8, MOST_DIGITS = 4;
    private static final int SHEETS = 4, PLACES = 24, MISSING = -1, SHORTS = 0, FLOATS = 1, MOST_FLOAT = 99999;
    private static final int SLOTS = 5, EMPTY = 0, A_LAND = 1, A_SHEET = 2, A_NUMBER = 3;
    private static final int MOST_WAIT = 60, MOST_CHECK = 30;

    private final Laws laws = new Laws();
    private final Island now = new Island(laws);
    private final Island image = new Island(laws);
    private final Island trial = new Island(laws);
    private final Tape tape = new Tape();
    private final Reader reader = new Reader(tape);
    private final Sheet[] sheets = new Sheet[SHEETS];
    private final Slot[] slots = new Slot[SLOTS];
    private final int[] waiting = new int[MOST_WAIT];
    private int waits;
    private boolean kept;

    public TideIsland() {
        for (int i = 0; i < SHEETS; i++) {
            sheets[i] = new Sheet();
        }
        for (int i = 0; i < SLOTS; i++) {
            slots[i] = new Slot();
        }
    }

    // ---- land, the sea

    public int land(int cell, int kind, int height) {
        if (!isCell(cell) || !isKind(kind) || !within(height, 0, MOST_HEIGHT)) {
            return BAD;
        }
        now.heights[cell] = height;
        return now.changeKind(cell, kind);
    }

    public int told(int cell, int what) {
        if (!isCell(cell)) {
            return BAD;
        }
        switch (what) {
            case 0: return now.kinds[cell];
            case 1: return now.heights[cell];
            case 2: return now.topOf(cell);
            case 3: return now.roomOf(cell);
            case 4: return Kinds.worthOf(now.kinds[cell], now.heights[cell]);
            case 5: return now.corn[cell];
            case 6: return now.owners[cell];
            case 7: return Cells.has(now.dryCells(0), cell) ? 1 : 0;
            default: return BAD;
        }
    }

    public int as(int cell, int kind) {
        if (!isCell(cell) || !isKind(kind)) {
            return BAD;
        }
        return Kinds.isUnder(now.kinds[cell], kind) ? now.heights[cell] : KIND;
    }

    public int turns(int cell, int kind) {
        if (!isCell(cell) || !isKind(kind)) {
            return BAD;
        }
        return now.changeKind(cell, kind);
    }

    public int set(int cell, int what, int v) {
        if (!isCell(cell)) {
            return BAD;
        }
        if (what == 0 && within(v, 0, MOST_CORN)) {
            int was = now.corn[cell];
            now.corn[cell] = v;
            return was;
        }
        if (what == 1 && (v == NONE || isOwner(v))) {
            int was = now.owners[cell];
            now.owners[cell] = v;
            return was;
        }
        return BAD;
    }

    public int sea(int what, int v) {
        if (what < 0 || what >= MOST_OF_SEA.length || !within(v, 0, MOST_OF_SEA[what])) {
            return BAD;
        }
        int was = now.water[what];
        now.water[what] = v;
        return was;
    }

    public int deal() {
        now.drawIsland();
        return now.sizeAt(0);
    }

    public int seed(int v) {
        int was = now.z;
        now.z = v;
        return was;
    }

    // ---- by hours

    public int sky(int t, int what) {
        if (!areHoursOn(t)) {
            return BAD;
        }
        switch (what) {
            case 0: return now.levelAt(t);
            case 1: return now.sizeAt(t);
            case 2: return Cells.partsOf(now.dryCells(t));
            default: return BAD;
        }
    }

    public int worst(int n, int what) {
        if (!within(n, 1, MOST_WORST) || !within(what, 0, 1)) {
            return BAD;
        }
        int hours = now.worstOf(n);
        return what == 0 ? hours : now.sizeAt(hours);
    }

    public int dryFor(int cell) {
        return isCell(cell) ? now.dryHours(cell) : BAD;
    }

    public int window(int cell, int n) {
        if (!isCell(cell) || !within(n, 1, LONGEST_WINDOW)) {
            return BAD;
        }
        return now.windowOf(cell, n);
    }

    public int owns(int owner, int t) {
        if (!isOwner(owner) || !areHoursOn(t)) {
            return BAD;
        }
        return now.ownedDry(owner, t);
    }

    public int richest(int what) {
        if (!within(what, 0, 1)) {
            return BAD;
        }
        int owner = now.richestOwner();
        return what == 0 ? owner : now.ownedInDay(owner);
    }

    // ---- houses

    public int house(int many) {
        if (!within(many, 1, MOST_MANY)) {
            return BAD;
        }
        return now.houses < HOUSES ? now.addHouse(many) : FULL;
    }

    public int houseTold(int house, int what) {
        if (!isHouse(house)) {
            return BAD;
        }
        switch (what) {
            case 0: return now.many[house];
            case 1: return now.places[house];
            default: return BAD;
        }
    }

    public int settle(int house, int cell) {
        if (!isHouse(house) || cell != NONE && !isCell(cell)) {
            return BAD;
        }
        int was = now.places[house];
        now.places[house] = cell;
        return was;
    }

    public int cut(int t) {
        return areHoursOn(t) ? now.cutHouses(t) : BAD;
    }

    public int lack(int t) {
        return areHoursOn(t) ? now.lackAt(t) : BAD;
    }

    public int going(int house, int cell) {
        if (!isHouse(house) || !isCell(cell)) {
            return BAD;
        }
        int from = now.places[house];
        return isCell(from) ? now.hoursBetween(from, cell) : NO;
    }

    public int run(int n) {
        if (!within(n, 1, MOST_RUN)) {
            return BAD;
        }
        for (int i = 0; i < n && now.hour < LAST_HOUR; i++) {
            now.passHour();
        }
        return now.lost;
    }

    // ---- texts

    public int feed(int a, int b, int c) {
        if (tape.length + FED > TAPE) {
            return FULL;
        }
        tape.addNumber(a);
        tape.addNumber(b);
        tape.addNumber(c);
        return tape.length;
    }

    public int trim(int n) {
        if (!within(n, 0, tape.length)) {
            return BAD;
        }
        tape.length = n;
        return n;
    }

    public int text() {
        int fault = reader.findFault();
        tape.length = 0;
        if (fault != NONE) {
            return FAULT - fault;
        }
        if (now.texts >= TEXTS) {
            return FULL;
        }
        int text = now.texts;
        laws.put(text, reader);
        now.texts = text + 1;
        return text;
    }

    public int textTold(int text, int what) {
        if (!within(text, 0, now.texts - 1)) {
            return BAD;
        }
        switch (what) {
            case 0: return laws.keys[text];
            case 1: return laws.operands[text];
            default: return BAD;
        }
    }

    public int why(int key) {
        return within(key, TIDE, ROOM) ? laws.lastOf(key, now.texts) : BAD;
    }

    // ---- sheets, slots

    public int sheet(int sheet, int sort, int n) {
        if (!isSheet(sheet) || !within(sort, MISSING, FLOATS)) {
            return BAD;
        }
        if (sort == MISSING) {
            sheets[sheet].become(MISSING, 0);
            return 0;
        }
        if (n > PLACES) {
            return BAD;
        }
        if (n < 0) {
            return SIZE;
        }
        sheets[sheet].become(sort, n);
        return n;
    }

    public int mark(int sheet, int place, int v) {
        if (!isSheet(sheet)) {
            return BAD;
        }
        Sheet row = sheets[sheet];
        if (row.sort == MISSING) {
            return NOTHING;
        }
        if (!row.hasPlace(place)) {
            return INDEX;
        }
        if (row.sort == SHORTS) {
            if (v == NONE) {
                return KIND;
            }
            row.values[place] = (short) v;
            return 1;
        }
        if (v != NONE && !within(v, -MOST_FLOAT, MOST_FLOAT)) {
            return BAD;
        }
        row.values[place] = v;
        return 1;
    }

    public int pour(int sheet, int row) {
        if (!isSheet(sheet) || !within(row, 0, ROWS - 1)) {
            return BAD;
        }
        Sheet from = sheets[sheet];
        return from.sort == MISSING ? NOTHING : now.pourInto(row, from);
    }

    public int reads(int sheet) {
        if (!isSheet(sheet)) {
            return BAD;
        }
        Sheet row = sheets[sheet];
        return row.sort == MISSING ? NOTHING : now.firstNotLevel(row);
    }

    public int copy(int from, int place, int to, int at, int many) {
        if (!isSheet(from) || !isSheet(to)) {
            return BAD;
        }
        Sheet source = sheets[from];
        Sheet target = sheets[to];
        if (source.sort == MISSING || target.sort == MISSING) {
            return NOTHING;
        }
        if (source.sort != target.sort) {
            return KIND;
        }
        if (!source.hasPlaces(place, many) || !target.hasPlaces(at, many)) {
            return INDEX;
        }
        System.arraycopy(source.values, place, target.values, at, many);
        return many;
    }

    public int lay(int slot, int thing, int k) {
        if (!isSlot(slot) || !within(thing, EMPTY, A_NUMBER)) {
            return BAD;
        }
        if (thing == A_LAND && !isCell(k) || thing == A_SHEET && !isSheet(k)) {
            return BAD;
        }
        if (thing == A_SHEET && sheets[k].sort == MISSING) {
            return NOTHING;
        }
        Slot into = slots[slot];
        int held = into.thing;
        into.thing = thing;
        if (thing == A_LAND) {
            into.kind = now.kinds[k];
            into.height = now.heights[k];
        } else if (thing == A_SHEET) {
            into.row.becomeLike(sheets[k]);
        } else if (thing == A_NUMBER) {
            into.number = k;
        }
        return held;
    }

    public int ask(int slot, int kind) {
        if (!isSlot(slot) || !isKind(kind)) {
            return BAD;
        }
        Slot from = slots[slot];
        int finding = from.findingFor(A_LAND);
        if (finding != NONE) {
            return finding;
        }
        return Kinds.isUnder(from.kind, kind) ? Kinds.worthOf(from.kind, from.height) : KIND;
    }

    public int item(int slot, int place) {
        if (!isSlot(slot)) {
            return BAD;
        }
        Slot from = slots[slot];
        int finding = from.findingFor(A_SHEET);
        if (finding != NONE) {
            return finding;
        }
        if (!from.row.hasPlace(place)) {
            return INDEX;
        }
        int value = from.row.values[place];
        return value == NONE ? KIND : value;
    }

    public int rest(int slot, int n) {
        if (!isSlot(slot)) {
            return BAD;
        }
        Slot from = slots[slot];
        int finding = from.findingFor(A_NUMBER);
        if (finding != NONE) {
            return finding;
        }
        return n == 0 ? NO : from.number % n;
    }

    // ---- rows, images

    public int tell(int v) {
        if (waits >= MOST_WAIT) {
            return FULL;
        }
        waiting[waits] = v;
        waits++;
        return waits;
    }

    public int check(int n) {
        int many = waits;
        waits = 0;
        if (!within(n, 1, MOST_CHECK)) {
            return BAD;
        }
        if (!kept) {
            return NO;
        }
        trial.becomeLike(image);
        return firstWrong(n, many);
    }

    public int keep() {
        image.becomeLike(now);
        kept = true;
        return now.houses;
    }

    public int back() {
        if (!kept) {
            return NO;
        }
        now.becomeLike(image);
        return now.houses;
    }

    public int count(int what) {
        switch (what) {
            case 0: return now.hour;
            case 1: return now.houses;
            case 2: return now.allCorn();
            case 3: return now.lost;
            case 4: return now.water[STORM];
            case 5: return now.peak();
            case 6: return now.texts;
            case 7: return waits;
            case 8: return tape.length;
            case 9: return now.z;
            default: return BAD;
        }
    }

    /** Which of so many numbers that wait is the first that the trial's hours don't tell, counted from 1; 0: none. */
    private int firstWrong(int hours, int many) {
        int right = 0;
        for (int i = 0; i < hours && trial.hour < LAST_HOUR; i++) {
            if (right >= many || waiting[right] != trial.sizeAt(0)) {
                return right + 1;
            }
            right++;
            trial.passHour();
            if (right >= many || waiting[right] != trial.allCorn()) {
                return right + 1;
            }
            right++;
        }
        return right < many ? right + 1 : 0;
    }

    private boolean isHouse(int house) {
        return within(house, 0, now.houses - 1);
    }

    private static boolean isCell(int cell) {
        return within(cell, 0, CELLS - 1);
    }

    private static boolean isKind(int kind) {
        return within(kind, LAND, STONE);
    }

    private static boolean isOwner(int owner) {
        return within(owner, 0, OWNERS - 1);
    }

    private static boolean areHoursOn(int t) {
        return within(t, 0, MOST_HOURS_ON);
    }

    private static boolean isSheet(int sheet) {
        return within(sheet, 0, SHEETS - 1);
    }

    private static boolean isSlot(int slot) {
        return within(slot, 0, SLOTS - 1);
    }

    private static boolean within(int v, int least, int most) {
        return v >= least && v <= most;
    }

    private static int hold(int v, int least, int most) {
        return Math.max(least, Math.min(most, v));
    }

    /** The kinds of land, and what each of them adds to the one above it. */
    private static final class Kinds {
        /** Land itself has none above it. */
        static int above(int kind) {
            switch (kind) {
                case FIELD:
                case WALLED:
                case STONE: return LAND;
                case RAISED: return FIELD;
                case DYKED: return WALLED;
                default: return NONE;
            }
        }

        static boolean isUnder(int kind, int other) {
            int looked = kind;
            for (int i = LAND; i <= STONE && looked != NONE; i++) {
                if (looked == other) {
                    return true;
                }
                looked = above(looked);
            }
            return false;
        }

        static int topOf(int kind, int height, int stones) {
            switch (kind) {
                case RAISED: return height + 1;
                case WALLED: return height + 2;
                case DYKED: return height + 3;
                case STONE: return height + stones;
                default: return height;
            }
        }

        static int roomOf(int kind, int asLand, int corn) {
            int asField = Math.max(0, asLand - corn / 10);
            switch (kind) {
                case FIELD: return asField;
                case RAISED: return asField / 2;
                case WALLED:
                case DYKED: return Math.max(0, asLand - 4);
                case STONE: return 1;
                default: return asLand;
            }
        }

        static int worthOf(int kind, int height) {
            switch (kind) {
                case FIELD: return height + 3;
                case RAISED: return 2 * (height + 3);
                case WALLED: return 20 - height;
                case DYKED: return 20 - height + 9;
                case STONE: return 50;
                default: return height;
            }
        }
    }

    /** Sets of cells as bits, bit 0 for cell 0: thirty cells are few enough for an int. */
    private static final class Cells {
        private static final int ALL = 0x3FFFFFFF;
        private static final int FIRST_COLUMN = 0x01041041;
        private static final int LAST_COLUMN = 0x20820820;

        static boolean has(int set, int cell) {
            return (set >>> cell & 1) != 0;
        }

        /** The set and all cells beside one of it. */
        static int spread(int set) {
            int upAndDown = set << COLUMNS | set >>> COLUMNS;
            int along = (set & ~LAST_COLUMN) << 1 | (set & ~FIRST_COLUMN) >>> 1;
            return (set | upAndDown | along) & ALL;
        }

        /** The part of a set that some of its cells are of. */
        static int partAround(int some, int set) {
            int part = some & set;
            for (int i = 0; i < CELLS; i++) {
                part = spread(part) & set;
            }
            return part;
        }

        static int partsOf(int set) {
            int parts = 0;
            int left = set;
            for (int i = 0; i < CELLS && left != 0; i++) {
                left &= ~partAround(left & -left, left);
                parts++;
            }
            return parts;
        }

        /** The cell beside one that stands at a place (0 .. 3) of the document's order; NONE: there is none. */
        static int beside(int cell, int place) {
            int column = cell % COLUMNS;
            switch (place) {
                case 0: return cell + COLUMNS < CELLS ? cell + COLUMNS : NONE;
                case 1: return column < COLUMNS - 1 ? cell + 1 : NONE;
                case 2: return cell >= COLUMNS ? cell - COLUMNS : NONE;
                case 3: return column > 0 ? cell - 1 : NONE;
                default: return NONE;
            }
        }

        static int firstBeside(int cell, int set) {
            for (int i = 0; i < 4; i++) {
                int next = beside(cell, i);
                if (next != NONE && has(set, next)) {
                    return next;
                }
            }
            return NONE;
        }
    }

    /** All that an image keeps. */
    private static final class Island {
        final int[] kinds = new int[CELLS];
        final int[] heights = new int[CELLS];
        final int[] corn = new int[CELLS];
        final int[] owners = new int[CELLS];
        final int[] water = {2, 8, 3, 0, 20, 1};
        final int[] many = new int[HOUSES];
        final int[] places = new int[HOUSES];
        int houses;
        int hour;
        int lost;
        int z = 1;
        /** How many texts count here: an image shares the rows of laws, as those told later stand behind its own. */
        int texts;
        private final Laws laws;

        Island(Laws laws) {
            this.laws = laws;
            Arrays.fill(owners, NONE);
        }

        void becomeLike(Island other) {
            System.arraycopy(other.kinds, 0, kinds, 0, CELLS);
            System.arraycopy(other.heights, 0, heights, 0, CELLS);
            System.arraycopy(other.corn, 0, corn, 0, CELLS);
            System.arraycopy(other.owners, 0, owners, 0, CELLS);
            System.arraycopy(other.water, 0, water, 0, water.length);
            System.arraycopy(other.many, 0, many, 0, HOUSES);
            System.arraycopy(other.places, 0, places, 0, HOUSES);
            houses = other.houses;
            hour = other.hour;
            lost = other.lost;
            z = other.z;
            texts = other.texts;
        }

        int changeKind(int cell, int kind) {
            int was = kinds[cell];
            kinds[cell] = kind;
            return was;
        }

        int draw() {
            z = z * 1103515245 + 12345;
            return z >>> 8;
        }

        void drawIsland() {
            for (int cell = 0; cell < CELLS; cell++) {
                kinds[cell] = draw() % (STONE + 1);
                heights[cell] = draw() % (MOST_HEIGHT + 1);
                int owner = draw() % (OWNERS + 1);
                owners[cell] = owner == OWNERS ? NONE : owner;
                corn[cell] = 0;
            }
        }

        int topOf(int cell) {
            return Kinds.topOf(kinds[cell], heights[cell], water[STONES]);
        }

        int roomOf(int cell) {
            int law = laws.lastOf(ROOM, texts);
            int asLand = law == NONE ? 10 : hold(laws.workOut(law, topOf(cell), heights[cell], 0), 0, MOST_ROOM);
            return Kinds.roomOf(kinds[cell], asLand, corn[cell]);
        }

        int growthOf(int cell) {
            int law = laws.lastOf(GROW, texts);
            return law == NONE ? 1 : hold(laws.workOut(law, corn[cell], heights[cell], 0), 0, MOST_GROWTH);
        }

        int levelAt(int hoursOn) {
            int time = hour + hoursOn;
            int law = laws.lastOf(TIDE, texts);
            if (law == NONE) {
                return plainLevelAt(time);
            }
            return hold(laws.workOut(law, time % DAY, time / DAY, water[STORM]), 0, MOST_LEVEL);
        }

        private int plainLevelAt(int time) {
            int h = time % 12;
            int r = h > 6 ? 12 - h : h;
            int tide = (water[LOW] * (6 - r) + water[HIGH] * r) / 6;
            int spring = time / DAY % 15 == 0 ? water[SPRING] : 0;
            return tide + spring + water[STORM];
        }

        int dryCells(int hoursOn) {
            int level = levelAt(hoursOn);
            int dry = 0;
            for (int cell = 0; cell < CELLS; cell++) {
                if (topOf(cell) > level) {
                    dry |= 1 << cell;
                }
            }
            return dry;
        }

        int sizeAt(int hoursOn) {
            return Integer.bitCount(dryCells(hoursOn));
        }

        int worstOf(int hours) {
            int worst = 0;
            int least = CELLS + 1;
            for (int t = 0; t < hours; t++) {
                int size = sizeAt(t);
                if (size < least) {
                    least = size;
                    worst = t;
                }
            }
            return worst;
        }

        int dryHours(int cell) {
            int top = topOf(cell);
            int hours = 0;
            while (hours < MOST_DRY_FOR && top > levelAt(hours)) {
                hours++;
            }
            return hours;
        }

        int windowOf(int cell, int hours) {
            int top = topOf(cell);
            int dryInRow = 0;
            for (int t = 0; t < LAST_WINDOW + hours; t++) {
                dryInRow = top > levelAt(t) ? dryInRow + 1 : 0;
                if (dryInRow == hours) {
                    return t - hours + 1;
                }
            }
            return NONE;
        }

        int ownedDry(int owner, int hoursOn) {
            int level = levelAt(hoursOn);
            int owned = 0;
            for (int cell = 0; cell < CELLS; cell++) {
                if (owners[cell] == owner && topOf(cell) > level) {
                    owned++;
                }
            }
            return owned;
        }

        int ownedInDay(int owner) {
            int owned = 0;
            for (int t = 0; t < DAY; t++) {
                owned += ownedDry(owner, t);
            }
            return owned;
        }

        int richestOwner() {
            int richest = 0;
            int most = -1;
            for (int owner = 0; owner < OWNERS; owner++) {
                int owned = ownedInDay(owner);
                if (owned > most) {
                    most = owned;
                    richest = owner;
                }
            }
            return richest;
        }

        int addHouse(int people) {
            int house = houses;
            many[house] = people;
            places[house] = NONE;
            houses = house + 1;
            return house;
        }

        int peak() {
            int peak = 0;
            for (int cell = 1; cell < CELLS; cell++) {
                if (topOf(cell) > topOf(peak)) {
                    peak = cell;
                }
            }
            return peak;
        }

        int cutHouses(int hoursOn) {
            int dry = dryCells(hoursOn);
            int apart = dry & ~Cells.partAround(1 << peak(), dry);
            int cut = 0;
            for (int house = 0; house < houses; house++) {
                if (places[house] != NONE && Cells.has(apart, places[house])) {
                    cut |= 1 << house;
                }
            }
            return cut;
        }

        int lackAt(int hoursOn) {
            int lack = 0;
            for (int house = 0; house < houses; house++) {
                lack += many[house];
            }
            int dry = dryCells(hoursOn);
            for (int cell = 0; cell < CELLS; cell++) {
                if (Cells.has(dry, cell)) {
                    lack -= roomOf(cell);
                }
            }
            return Math.max(0, lack);
        }

        int hoursBetween(int from, int to) {
            int reached = 1 << from;
            for (int t = 0; t <= MOST_GOING; t++) {
                reached &= dryCells(t);
                if (Cells.has(reached, to)) {
                    return t;
                }
                reached = Cells.spread(reached);
            }
            return NONE;
        }

        void passHour() {
            int dry = dryCells(0);
            growCorn(dry);
            moveHouses(dry);
            if (hour % 12 == 0) {
                drawStorm();
            }
            hour++;
        }

        private void growCorn(int dry) {
            for (int cell = 0; cell < CELLS; cell++) {
                if (Kinds.isUnder(kinds[cell], FIELD)) {
                    corn[cell] = Cells.has(dry, cell) ? Math.min(MOST_CORN, corn[cell] + growthOf(cell)) : 0;
                }
            }
        }

        private void moveHouses(int dry) {
            for (int house = 0; house < houses; house++) {
                int place = places[house];
                if (place != NONE && !Cells.has(dry, place)) {
                    places[house] = Cells.firstBeside(place, dry);
                    if (places[house] == NONE) {
                        lost += many[house];
                    }
                }
            }
        }

        private void drawStorm() {
            int step = draw() % 100 < water[CHANCE] ? 1 : -1;
            water[STORM] = hold(water[STORM] + step, 0, MOST_STORM);
        }

        int allCorn() {
            int all = 0;
            for (int cell = 0; cell < CELLS; cell++) {
                all += corn[cell];
            }
            return all;
        }

        /** Corn of a row becomes what a sheet's places say: how many cells have other corn then. */
        int pourInto(int row, Sheet sheet) {
            int changed = 0;
            for (int column = 0; column < COLUMNS && column < sheet.size; column++) {
                int cell = COLUMNS * row + column;
                int value = sheet.values[column];
                int poured = value == NONE ? corn[cell] : hold(value, 0, MOST_CORN);
                if (poured != corn[cell]) {
                    corn[cell] = poured;
                    changed++;
                }
            }
            return changed;
        }

        int firstNotLevel(Sheet sheet) {
            for (int place = 0; place < sheet.size; place++) {
                int value = sheet.values[place];
                if (value != NONE && value != levelAt(place)) {
                    return place;
                }
            }
            return NONE;
        }
    }

    /** The bytes that wait to be read as a text. */
    private static final class Tape {
        private static final int END = 0, BLANK = 1, LETTER = 2, DIGIT = 3, SIGN = 4;

        int length;
        private final int[] bytes = new int[TAPE];

        void addNumber(int number) {
            for (int shift = 24; shift >= 0 && length < TAPE; shift -= 8) {
                bytes[length] = number >>> shift & 255;
                length++;
            }
        }

        int byteAt(int place) {
            return place >= 0 && place < length ? bytes[place] : 0;
        }

        int sortAt(int place) {
            if (place < 0 || place >= length) {
                return END;
            }
            int b = bytes[place];
            if (b == ' ') {
                return BLANK;
            }
            if (b >= 'a' && b <= 'z') {
                return LETTER;
            }
            return b >= '0' && b <= '9' ? DIGIT : SIGN;
        }
    }

    /**
     * Reads the tape as a text, and puts its expression into a row in which both sides of a sign stand ahead of it:
     * so it can be worked out from the front on, with no brackets. In the row a number stands for itself,
     * a name for -1, -2 or -3, a sign for less than that.
     */
    private static final class Reader {
        private static final int OPEN = 0, OR = 1, AND = 2, TEST = 3, SUM = 4, TERM = 5;

        int key;
        int operands;
        final int[] row = new int[TAPE];
        int size;
        private final Tape tape;
        private int start;
        private int end;
        /** Signs whose right side may still go on, so that they are not in the row yet. */
        private final int[] pending = new int[TAPE];
        private int pendings;
        private int openBrackets;
        private int openNots;
        private boolean pieceDue;

        Reader(Tape tape) {
            this.tape = tape;
        }

        /** The place of the tape's fault; NONE: it has none, and key, operands and row are those of its text. */
        int findFault() {
            begin();
            key = keyHere();
            if (key == NONE) {
                return start;
            }
            goOn();
            for (int i = 0; i < TAPE && start < tape.length; i++) {
                boolean fits = pieceDue ? takePiece() : takeSign();
                if (!fits) {
                    return start;
                }
                goOn();
            }
            if (pieceDue || openBrackets > 0) {
                return start;
            }
            putPending(OR);
            return NONE;
        }

        private void begin() {
            operands = 0;
            size = 0;
            pendings = 0;
            openBrackets = 0;
            openNots = 0;
            pieceDue = true;
            end = 0;
            goOn();
        }

        /** Goes to the next word or sign, or to the tape's end. */
        private void goOn() {
            start = end;
            while (start < tape.length && tape.sortAt(start) == Tape.BLANK) {
                start++;
            }
            end = start;
            int sort = tape.sortAt(start);
            while (end < tape.length && tape.sortAt(end) == sort && (sort != Tape.SIGN || end == start)) {
                end++;
            }
        }

        private int keyHere() {
            if (spells("tide")) {
                return TIDE;
            }
            if (spells("grow")) {
                return GROW;
            }
            return spells("room") ? ROOM : NONE;
        }

        private boolean spells(String word) {
            if (end - start != word.length()) {
                return false;
            }
            for (int i = 0; i < word.length(); i++) {
                if (tape.byteAt(start + i) != word.charAt(i)) {
                    return false;
                }
            }
            return true;
        }

        private boolean takePiece() {
            int sign = tape.byteAt(start);
            if (sign == '(') {
                openBrackets++;
                push(sign);
                return openBrackets <= MOST_NESTED;
            }
            if (sign == '!') {
                openNots++;
                push(sign);
                return openNots <= MOST_NESTED;
            }
            int operand = operandHere();
            if (operand == NONE) {
                return false;
            }
            put(operand);
            operands++;
            endPiece();
            return true;
        }

        private int operandHere() {
            if (followsWord()) {
                return NONE;
            }
            switch (tape.sortAt(start)) {
                case Tape.DIGIT: return numberHere();
                case Tape.LETTER: return nameHere();
                default: return NONE;
            }
        }

        /** A number right behind the key needs a blank. */
        private boolean followsWord() {
            int sort = tape.sortAt(start - 1);
            return sort == Tape.LETTER || sort == Tape.DIGIT;
        }

        private int numberHere() {
            if (end - start > MOST_DIGITS) {
                return NONE;
            }
            int number = 0;
            for (int i = start; i < end; i++) {
                number = number * 10 + tape.byteAt(i) - '0';
            }
            return number;
        }

        private int nameHere() {
            int place = namesOfKey().indexOf((char) tape.byteAt(start));
            return end - start == 1 && place >= 0 ? -1 - place : NONE;
        }

        private String namesOfKey() {
            switch (key) {
                case TIDE: return "hds";
                case GROW: return "ch";
                default: return "th";
            }
        }

        /** A piece is at its end, and with it each ! right ahead of it. */
        private void endPiece() {
            for (int i = 0; i < MOST_NESTED && topSign() == '!'; i++) {
                put(-topSign());
                pendings--;
                openNots--;
            }
            pieceDue = false;
        }

        private boolean takeSign() {
            int sign = tape.byteAt(start);
            if (sign == ')') {
                return closeBracket();
            }
            int rank = rankOf(sign);
            if (rank == OPEN) {
                return false;
            }
            if (rank == TEST) {
                putPending(SUM);
                if (rankOf(topSign()) == TEST) {
                    return false;
                }
            } else {
                putPending(rank);
            }
            push(sign);
            pieceDue = true;
            return true;
        }

        private boolean closeBracket() {
            if (openBrackets == 0) {
                return false;
            }
            putPending(OR);
            pendings--;
            openBrackets--;
            endPiece();
            return true;
        }

        /** Puts into the row what waits behind the last open bracket and binds no looser than a rank. */
        private void putPending(int rank) {
            for (int i = 0; i < TAPE && rankOf(topSign()) >= rank; i++) {
                put(-topSign());
                pendings--;
            }
        }

        private static int rankOf(int sign) {
            switch (sign) {
                case '|': return OR;
                case '&': return AND;
                case '<':
                case '=':
                case '>': return TEST;
                case '+':
                case '-': return SUM;
                case '*':
                case '/': return TERM;
                default: return OPEN;
            }
        }

        private int topSign() {
            return pendings > 0 ? pending[pendings - 1] : 0;
        }

        private void push(int sign) {
            if (pendings < TAPE) {
                pending[pendings] = sign;
                pendings++;
            }
        }

        private void put(int what) {
            if (size < TAPE) {
                row[size] = what;
                size++;
            }
        }
    }

    /** The texts, each as a key and the row that a reader made of its expression. */
    private static final class Laws {
        final int[] keys = new int[TEXTS];
        final int[] operands = new int[TEXTS];
        private final int[] sizes = new int[TEXTS];
        private final int[][] rows = new int[TEXTS][TAPE];
        private final int[] stack = new int[TAPE];
        private int high;

        void put(int text, Reader reader) {
            keys[text] = reader.key;
            operands[text] = reader.operands;
            sizes[text] = reader.size;
            System.arraycopy(reader.row, 0, rows[text], 0, reader.size);
        }

        /** Of so many texts the last one of a key; NONE: there is none. */
        int lastOf(int key, int many) {
            for (int text = many - 1; text >= 0; text--) {
                if (keys[text] == key) {
                    return text;
                }
            }
            return NONE;
        }

        /** What a text gives, with what its key's names stand for. */
        int workOut(int text, int first, int second, int third) {
            high = 0;
            for (int i = 0; i < sizes[text]; i++) {
                int what = rows[text][i];
                if (what >= 0) {
                    push(what);
                } else if (what == -1) {
                    push(first);
                } else if (what == -2) {
                    push(second);
                } else if (what == -3) {
                    push(third);
                } else if (what == -'!') {
                    push(pop() == 0 ? 1 : 0);
                } else {
                    int right = pop();
                    int left = pop();
                    push(join(-what, left, right));
                }
            }
            return pop();
        }

        private static int join(int sign, int left, int right) {
            switch (sign) {
                case '|': return left != 0 || right != 0 ? 1 : 0;
                case '&': return left != 0 && right != 0 ? 1 : 0;
                case '<': return left < right ? 1 : 0;
                case '=': return left == right ? 1 : 0;
                case '>': return left > right ? 1 : 0;
                case '+': return left + right;
                case '-': return left - right;
                case '*': return left * right;
                case '/': return right == 0 ? 0 : left / right;
                default: return 0;
            }
        }

        private void push(int v) {
            if (high < TAPE) {
                stack[high] = v;
                high++;
            }
        }

        private int pop() {
            if (high == 0) {
                return 0;
            }
            high--;
            return stack[high];
        }
    }

    /** A row of whole numbers; ints hold shorts and such floats alike, and NONE stands for no number. */
    private static final class Sheet {
        int sort = MISSING;
        int size;
        final int[] values = new int[PLACES];

        void become(int newSort, int places) {
            sort = newSort;
            size = places;
            Arrays.fill(values, 0);
        }

        void becomeLike(Sheet other) {
            sort = other.sort;
            size = other.size;
            System.arraycopy(other.values, 0, values, 0, PLACES);
        }

        boolean hasPlace(int place) {
            return place >= 0 && place < size;
        }

        boolean hasPlaces(int from, int many) {
            return from >= 0 && many >= 0 && from <= size && many <= size - from;
        }
    }

    private static final class Slot {
        int thing = EMPTY;
        int kind;
        int height;
        int number;
        final Sheet row = new Sheet();

        /** Why a slot is not a thing that is asked for; NONE: it is. */
        int findingFor(int asked) {
            if (thing == EMPTY) {
                return NOTHING;
            }
            return thing == asked ? NONE : KIND;
        }
    }
}
