/** A parish on stilts, as ../shared/DOC.md tells it; words in capitals are the document's own. */
public final class StiltParish {
    private static final int LOW = -1000000000;
    private static final int BEYOND = 1;
    private static final int NONE = 2;
    private static final int STATE = 3;
    private static final int FULL = 4;
    private static final int KIND = 5;
    private static final int PARTED = 6;

    private static final int CELLS = 16;
    private static final int PLACES = 6;
    private static final int KINDS = 7;
    private static final int MOST_PEOPLE = 8;
    private static final int THINGS = 12;
    private static final int ALL_THINGS = 4095;
    private static final int MOST_KM = 69;
    private static final int MOST_RISE = 9;
    private static final int MOST_GROUND = 9;
    private static final int MOST_WATER = 99;
    private static final int MOST_STILTS = 20;
    private static final int MOST_DAY = 9999;
    private static final int MOST_BYTES = 60;
    private static final int MOST_OPEN = 5;
    private static final int MOST_NUMBERS = 24;
    private static final int MOST_TRACED = 30;
    private static final int SHEETS = 4;
    private static final int LONG_THOUGHT = 60;
    private static final int THOUGHT = 40;
    private static final int DOES = 0;
    private static final int MADE = 1;

    /** For each cell the four beside it from the least number on (so that the first of equals is the least); -1: none. */
    private static final int[] BESIDE = {
        -1, -1, 1, 4, -1, 0, 2, 5, -1, 1, 3, 6, -1, 2, -1, 7,
        0, -1, 5, 8, 1, 4, 6, 9, 2, 5, 7, 10, 3, 6, -1, 11,
        4, -1, 9, 12, 5, 8, 10, 13, 6, 9, 11, 14, 7, 10, -1, 15,
        8, -1, 13, -1, 9, 12, 14, -1, 10, 13, 15, -1, 11, 14, -1, -1};
    private static final int WAYS = 4;
    private static final int ACROSS = 4;

    /** What GROUND, WATER, WALLED, KEPT of a cell may be at most. */
    private static final int[] MOST_OF_CELL = {MOST_GROUND, MOST_WATER, 1, ALL_THINGS};
    /** What cell, STILTS, KNOWS of one may be at most. */
    private static final int[] MOST_OF_ONE = {CELLS - 1, MOST_STILTS, ALL_THINGS};

    private final World now;
    /** Where days are only thought; it reads the TEXTS of now, which no thought changes. */
    private final World thought;
    private final World held;
    private final Row tape = new Row(MOST_BYTES);
    private final Row heldTape = new Row(MOST_BYTES);
    private final Row waiting = new Row(MOST_NUMBERS);
    private final Row heldWaiting = new Row(MOST_NUMBERS);
    private final Text draft = new Text();
    private final Row[] sheets = new Row[SHEETS];
    private final Voice latest = new Voice();
    private final int[] answered = new int[PARTED + 1];
    private int images;

    public StiltParish() {
        Goer[] kinds = {new Goer(), new Postman(), new Young(), new Lame(), new Boots(), new Bold(), new Parr()};
        Text does = new Text();
        Text made = new Text();
        now = new World(kinds, does, made);
        thought = new World(kinds, does, made);
        held = new World(kinds, new Text(), new Text());
        for (int i = 0; i < SHEETS; i++) {
            sheets[i] = new Row(MOST_NUMBERS);
        }
    }

    // ---- people, cells

    public int one(int km, int cell) {
        if (outside(km, MOST_KM) || outside(cell, CELLS - 1)) {
            return refuse(BEYOND);
        }
        if (now.people >= MOST_PEOPLE) {
            return refuse(FULL);
        }
        return now.join(km, cell);
    }

    public int oneIs(int one, int what) {
        if (nobody(one)) {
            return refuse(BEYOND);
        }
        switch (what) {
            case 0: return now.kind[one];
            case 1: return now.m[one];
            case 2: return now.cell[one];
            case 3: return now.stilts[one];
            case 4: return now.knows[one];
            case 5: return now.isWet(one) ? 1 : 0;
            case 6: return now.does(one);
            case 7: return now.made(one);
            default: return refuse(BEYOND);
        }
    }

    public int become(int one, int km) {
        if (nobody(one) || outside(km, MOST_KM)) {
            return refuse(BEYOND);
        }
        int was = now.kind[one];
        now.kind[one] = km / 10;
        now.m[one] = km % 10;
        return was;
    }

    public int as(int one, int kind) {
        if (nobody(one) || outside(kind, KINDS - 1)) {
            return refuse(BEYOND);
        }
        if (!isUnder(now.kinds[now.kind[one]], kind)) {
            return refuse(KIND);
        }
        return now.m[one];
    }

    public int set(int one, int what, int v) {
        if (nobody(one) || outside(what, MOST_OF_ONE.length - 1) || outside(v, MOST_OF_ONE[what])) {
            return refuse(BEYOND);
        }
        return swap(now.rowOfPeople(what), one, v);
    }

    public int cut(int one) {
        if (nobody(one)) {
            return refuse(BEYOND);
        }
        return swap(now.stilts, one, now.made(one));
    }

    public int land(int cell, int what, int v) {
        if (outside(cell, CELLS - 1) || outside(what, MOST_OF_CELL.length - 1) || outside(v, MOST_OF_CELL[what])) {
            return refuse(BEYOND);
        }
        return swap(now.rowOfCells(what), cell, v);
    }

    public int landIs(int cell, int what) {
        if (outside(cell, CELLS - 1) || outside(what, MOST_OF_CELL.length)) {
            return refuse(BEYOND);
        }
        return what == MOST_OF_CELL.length ? now.level(cell) : now.rowOfCells(what)[cell];
    }

    public int rises(int place, int v) {
        if (outside(place, PLACES - 1) || outside(v, MOST_RISE)) {
            return refuse(BEYOND);
        }
        return swap(now.rises, place, v);
    }

    public int springs(int cell) {
        if (outside(cell, CELLS - 1)) {
            return refuse(BEYOND);
        }
        int was = now.spring;
        now.spring = cell;
        return was;
    }

    // ---- texts

    public int feed(long word, int n) {
        if (n < 1 || n > 8) {
            return refuse(BEYOND);
        }
        if (tape.size + n > MOST_BYTES) {
            return refuse(FULL);
        }
        for (int i = 0; i < n; i++) {
            tape.add((int) (word >>> (8 * i)) & 255);
        }
        return tape.size;
    }

    public int text(int use) {
        if (outside(use, MADE)) {
            return refuse(BEYOND);
        }
        int fault = draft.read(tape, use == DOES ? "ykd" : "tgd");
        tape.size = 0;
        if (fault >= 0) {
            return -10 - fault;
        }
        textOf(use).copyFrom(draft);
        return 1;
    }

    public int untell(int use) {
        if (outside(use, MADE)) {
            return refuse(BEYOND);
        }
        Text told = textOf(use);
        int was = told.size > 0 ? 1 : 0;
        told.size = 0;
        return was;
    }

    public int law(int use, int a, int b, int c) {
        if (outside(use, MADE)) {
            return refuse(BEYOND);
        }
        return use == DOES ? now.doesBy(a, b, c) : now.madeBy(a, b, c);
    }

    // ---- days

    public int days(int n) {
        if (n < 1 || n > LONG_THOUGHT) {
            return refuse(BEYOND);
        }
        if (now.day + n > MOST_DAY) {
            return refuse(STATE);
        }
        now.daysGo(n);
        return now.known();
    }

    public int loose(int n) {
        if (n < 1 || n > 30) {
            return refuse(BEYOND);
        }
        if (now.day + n > MOST_DAY) {
            return refuse(STATE);
        }
        for (int i = 0; i < n; i++) {
            now.drawSpring();
            now.dayGoes();
        }
        return now.known();
    }

    public int day(int v) {
        if (outside(v, MOST_DAY)) {
            return refuse(BEYOND);
        }
        int was = now.day;
        now.day = v;
        return was;
    }

    public int seed(int v) {
        int was = now.z;
        now.z = v;
        return was;
    }

    // ---- what would be

    public int then(int cell, int n) {
        if (outside(cell, CELLS - 1) || outside(n, LONG_THOUGHT)) {
            return refuse(BEYOND);
        }
        thought.copyFrom(now);
        thought.waterGoes(n);
        return thought.water[cell];
    }

    public int learns(int one, int n) {
        if (nobody(one) || outside(n, LONG_THOUGHT)) {
            return refuse(BEYOND);
        }
        thought.copyFrom(now);
        thought.daysGo(n);
        return thought.knows[one];
    }

    public int soonest(int thing) {
        if (outside(thing, THINGS - 1)) {
            return refuse(BEYOND);
        }
        thought.copyFrom(now);
        for (int n = 0; n <= LONG_THOUGHT; n++) {
            if ((thought.known() >> thing & 1) == 1) {
                return n;
            }
            thought.dayGoes();
        }
        return refuse(NONE);
    }

    public int stiltsFor(int one, int n) {
        if (nobody(one) || outside(n, THOUGHT)) {
            return refuse(BEYOND);
        }
        for (int tall = 0; tall <= MOST_STILTS; tall++) {
            if (learnsNothing(one, n, tall)) {
                return tall;
            }
        }
        return refuse(NONE);
    }

    public int wallFor(int cell, int n, int what) {
        if (outside(cell, CELLS - 1) || outside(n, THOUGHT) || outside(what, 1)) {
            return refuse(BEYOND);
        }
        thought.copyFrom(now);
        thought.waterGoes(n);
        int least = thought.water[cell];
        int best = -1;
        for (int wall = 0; wall < CELLS; wall++) {
            thought.copyFrom(now);
            thought.walled[wall] = 1;
            thought.waterGoes(n);
            if (thought.water[cell] < least) {
                least = thought.water[cell];
                best = wall;
            }
        }
        if (best < 0) {
            return refuse(NONE);
        }
        return what == 0 ? best : least;
    }

    public int springFor(int n, int what) {
        if (outside(n, THOUGHT) || outside(what, 1)) {
            return refuse(BEYOND);
        }
        int fewest = THINGS + 1;
        int best = 0;
        for (int spring = 0; spring < CELLS; spring++) {
            thought.copyFrom(now);
            thought.spring = spring;
            thought.daysGo(n);
            int known = Integer.bitCount(thought.known());
            if (known < fewest) {
                fewest = known;
                best = spring;
            }
        }
        return what == 0 ? best : fewest;
    }

    public int walk(int one, int cell) {
        if (nobody(one) || outside(cell, CELLS - 1)) {
            return refuse(BEYOND);
        }
        int dry = now.dryFor(now.stilts[one]);
        int reached = 1 << now.cell[one];
        for (int steps = 0; steps < CELLS; steps++) {
            if ((reached >> cell & 1) == 1) {
                return steps;
            }
            reached |= allBeside(reached) & dry;
        }
        return refuse(NONE);
    }

    public int council(int things) {
        if (outside(things, ALL_THINGS)) {
            return refuse(BEYOND);
        }
        int best = -1;
        int fewest = MOST_PEOPLE + 1;
        for (int some = 0; some < 1 << now.people; some++) {
            int size = Integer.bitCount(some);
            if (size < fewest && (things & ~now.knownAmong(some)) == 0) {
                fewest = size;
                best = some;
            }
        }
        return best < 0 ? refuse(NONE) : best;
    }

    public int odds(int one, int n, int part) {
        if (nobody(one) || outside(n, THOUGHT) || outside(part, 1)) {
            return refuse(BEYOND);
        }
        int wet = 0;
        for (int spring = 0; spring < CELLS; spring++) {
            thought.copyFrom(now);
            thought.spring = spring;
            thought.daysGo(n);
            if (thought.isWet(one)) {
                wet++;
            }
        }
        if (wet == 0) {
            return part;
        }
        // CELLS is a power of two, so the lowest bit is all that the two can share
        int shared = wet & -wet;
        return part == 0 ? wet / shared : CELLS / shared;
    }

    public int fits(int sheet, int one, int what) {
        if (outside(sheet, SHEETS - 1) || nobody(one) || outside(what, 1)) {
            return refuse(BEYOND);
        }
        if (sheets[sheet].bits == 0) {
            return refuse(NONE);
        }
        int kinds = 0;
        for (int kind = 0; kind < KINDS; kind++) {
            if (fitsKind(sheets[sheet], one, kind)) {
                kinds |= 1 << kind;
            }
        }
        return what == 0 ? kinds : Integer.bitCount(kinds);
    }

    // ---- voices, sheets, images, what is told

    public int voice(int one, int voice, int x) {
        if (nobody(one) || outside(voice, 3)) {
            return refuse(BEYOND);
        }
        latest.opens(one, now.m[one]);
        Goer kind = now.kinds[now.kind[one]];
        int answer;
        switch (voice) {
            case 0: answer = kind.wades(latest, x); break;
            case 1: answer = kind.knows(latest, x); break;
            case 2: answer = kind.sits(latest, x); break;
            default: answer = kind.parts(latest, x); break;
        }
        return latest.parted ? refuse(PARTED) : answer;
    }

    public int body(int i) {
        return outside(i, latest.size - 1) ? refuse(NONE) : latest.trace[i];
    }

    public int sheet(int sheet, int bits, int n) {
        if (outside(sheet, SHEETS - 1) || (bits != 0 && bits != 8 && bits != 16 && bits != 32)) {
            return refuse(BEYOND);
        }
        if (bits != 0 && n < 0) {
            return refuse(STATE);
        }
        if (bits != 0 && n > MOST_NUMBERS) {
            return refuse(BEYOND);
        }
        sheets[sheet].clear(bits, bits == 0 ? 0 : n);
        return 1;
    }

    public int put(int sheet, int i, int v) {
        if (outside(sheet, SHEETS - 1)) {
            return refuse(BEYOND);
        }
        Row row = sheets[sheet];
        if (row.bits == 0) {
            return refuse(NONE);
        }
        if (outside(i, row.size - 1)) {
            return refuse(BEYOND);
        }
        row.numbers[i] = row.lowest(v);
        return 1;
    }

    public int move(int sheet, int i, int other, int j, int n) {
        if (outside(sheet, SHEETS - 1) || outside(other, SHEETS - 1)) {
            return refuse(BEYOND);
        }
        Row from = sheets[sheet];
        Row to = sheets[other];
        if (from.bits == 0 || to.bits == 0) {
            return refuse(NONE);
        }
        if (from.bits != to.bits) {
            return refuse(KIND);
        }
        // n is held below first, so that the differences can't wrap
        if (outside(n, MOST_NUMBERS) || outside(i, from.size - n) || outside(j, to.size - n)) {
            return refuse(BEYOND);
        }
        System.arraycopy(from.numbers, i, to.numbers, j, n);
        return n;
    }

    public int grounds(int sheet) {
        if (outside(sheet, SHEETS - 1)) {
            return refuse(BEYOND);
        }
        Row row = sheets[sheet];
        if (row.bits == 0) {
            return refuse(NONE);
        }
        int done = 0;
        while (done < row.size && done < CELLS && !outside(row.numbers[done], MOST_GROUND)) {
            now.ground[done] = row.numbers[done];
            done++;
        }
        return done;
    }

    public int judge(int sheet) {
        if (outside(sheet, SHEETS - 1)) {
            return refuse(BEYOND);
        }
        Row row = sheets[sheet];
        if (row.bits == 0) {
            return refuse(NONE);
        }
        int right = 0;
        while (right < row.size && right < CELLS && row.numbers[right] == now.water[right]) {
            right++;
        }
        return right;
    }

    public int image() {
        held.copyFrom(now);
        held.copyTexts(now);
        heldTape.copyFrom(tape);
        heldWaiting.copyFrom(waiting);
        images++;
        return images;
    }

    public int restore() {
        if (images == 0) {
            return refuse(NONE);
        }
        now.copyFrom(held);
        now.copyTexts(held);
        tape.copyFrom(heldTape);
        waiting.copyFrom(heldWaiting);
        return now.day;
    }

    public int tell(int v) {
        if (waiting.size >= MOST_NUMBERS) {
            return refuse(FULL);
        }
        waiting.add(v);
        return waiting.size;
    }

    public int check() {
        int told = waiting.size;
        waiting.size = 0;
        for (int i = 0; i < told; i++) {
            if (nobody(i) || waiting.numbers[i] != now.made(i)) {
                return 1 + i;
            }
        }
        return 0;
    }

    public int count(int what) {
        switch (what) {
            case 0: return now.people;
            case 1: return now.day;
            case 2: return now.spring;
            case 3: return now.allWater();
            case 4: return now.wetOnes();
            case 5: return now.known();
            case 6: return now.downOnes();
            case 7: return tape.size;
            case 8: return waiting.size;
            case 9: return latest.size;
            case 10: return now.z;
            default: return refuse(BEYOND);
        }
    }

    public int told(int k) {
        if (k < BEYOND || k > PARTED) {
            return refuse(BEYOND);
        }
        return answered[k];
    }

    // ---- what the acts share

    private int refuse(int error) {
        answered[error]++;
        return LOW - error;
    }

    private boolean nobody(int one) {
        return one < 0 || one >= now.people;
    }

    private static boolean outside(int v, int most) {
        return v < 0 || v > most;
    }

    private static int swap(int[] row, int i, int v) {
        int was = row[i];
        row[i] = v;
        return was;
    }

    private Text textOf(int use) {
        return use == DOES ? now.doesText : now.madeText;
    }

    private static boolean isUnder(Goer one, int kind) {
        switch (kind) {
            case 0: return true;
            case 1: return one instanceof Postman;
            case 2: return one instanceof Young;
            case 3: return one instanceof Lame;
            case 4: return one instanceof Boots;
            case 5: return one instanceof Bold;
            default: return one instanceof Parr;
        }
    }

    /** The cells beside those of a set; the last of a line has none behind it, the first none ahead: hence the masks. */
    private static int allBeside(int cells) {
        return cells << ACROSS & 0xFFFF | cells >> ACROSS | (cells & 0x7777) << 1 | (cells & 0xEEEE) >> 1;
    }

    private boolean learnsNothing(int one, int n, int tall) {
        thought.copyFrom(now);
        thought.stilts[one] = tall;
        for (int i = 0; i < n && thought.knows[one] == now.knows[one]; i++) {
            thought.dayGoes();
        }
        return thought.knows[one] == now.knows[one];
    }

    private boolean fitsKind(Row row, int one, int kind) {
        thought.copyFrom(now);
        thought.kind[one] = kind;
        for (int i = 0; i < row.size; i++) {
            if (row.numbers[i] != thought.stilts[one]) {
                return false;
            }
            thought.dayGoes();
        }
        return true;
    }

    /** The cells, the people and the DAY, and how a DAY goes by. */
    private static final class World {
        final Goer[] kinds;
        final Text doesText;
        final Text madeText;
        int day;
        int spring;
        int z = 1;
        final int[] ground = new int[CELLS];
        final int[] water = new int[CELLS];
        final int[] walled = new int[CELLS];
        final int[] kept = new int[CELLS];
        final int[] rises = {0, 1, 2, 3, 4, 5};
        int people;
        final int[] kind = new int[MOST_PEOPLE];
        final int[] m = new int[MOST_PEOPLE];
        final int[] cell = new int[MOST_PEOPLE];
        final int[] stilts = new int[MOST_PEOPLE];
        final int[] knows = new int[MOST_PEOPLE];

        World(Goer[] kinds, Text doesText, Text madeText) {
            this.kinds = kinds;
            this.doesText = doesText;
            this.madeText = madeText;
            for (int i = 0; i < CELLS; i++) {
                ground[i] = 7 * i % 10;
            }
        }

        /** All but the TEXTS, which a thought shares with now. */
        void copyFrom(World other) {
            day = other.day;
            spring = other.spring;
            z = other.z;
            people = other.people;
            System.arraycopy(other.ground, 0, ground, 0, CELLS);
            System.arraycopy(other.water, 0, water, 0, CELLS);
            System.arraycopy(other.walled, 0, walled, 0, CELLS);
            System.arraycopy(other.kept, 0, kept, 0, CELLS);
            System.arraycopy(other.rises, 0, rises, 0, PLACES);
            System.arraycopy(other.kind, 0, kind, 0, MOST_PEOPLE);
            System.arraycopy(other.m, 0, m, 0, MOST_PEOPLE);
            System.arraycopy(other.cell, 0, cell, 0, MOST_PEOPLE);
            System.arraycopy(other.stilts, 0, stilts, 0, MOST_PEOPLE);
            System.arraycopy(other.knows, 0, knows, 0, MOST_PEOPLE);
        }

        void copyTexts(World other) {
            doesText.copyFrom(other.doesText);
            madeText.copyFrom(other.madeText);
        }

        int join(int km, int at) {
            int one = people;
            kind[one] = km / 10;
            m[one] = km % 10;
            cell[one] = at;
            stilts[one] = 6;
            knows[one] = 0;
            people++;
            return one;
        }

        int[] rowOfPeople(int what) {
            switch (what) {
                case 0: return cell;
                case 1: return stilts;
                default: return knows;
            }
        }

        int[] rowOfCells(int what) {
            switch (what) {
                case 0: return ground;
                case 1: return water;
                case 2: return walled;
                default: return kept;
            }
        }

        int level(int at) {
            return ground[at] + water[at];
        }

        boolean isWet(int one) {
            return water[cell[one]] > stilts[one];
        }

        int known() {
            return knownAmong(-1);
        }

        int knownAmong(int some) {
            int things = 0;
            for (int i = 0; i < people; i++) {
                if ((some >> i & 1) == 1) {
                    things |= knows[i];
                }
            }
            return things;
        }

        int wetOnes() {
            int wet = 0;
            for (int i = 0; i < people; i++) {
                if (isWet(i)) {
                    wet |= 1 << i;
                }
            }
            return wet;
        }

        int downOnes() {
            int down = 0;
            for (int i = 0; i < people; i++) {
                if (stilts[i] == 0) {
                    down++;
                }
            }
            return down;
        }

        int allWater() {
            int all = 0;
            for (int i = 0; i < CELLS; i++) {
                all += water[i];
            }
            return all;
        }

        int dryFor(int tall) {
            int dry = 0;
            for (int i = 0; i < CELLS; i++) {
                if (water[i] <= tall) {
                    dry |= 1 << i;
                }
            }
            return dry;
        }

        int does(int one) {
            return doesBy(kinds[kind[one]].acts(this, one), Integer.bitCount(knows[one]), day % 8);
        }

        int made(int one) {
            return madeBy(kinds[kind[one]].tall(this, one), ground[cell[one]], day % 8);
        }

        int doesBy(int y, int k, int d) {
            return Math.floorMod(doesText.size > 0 ? doesText.gives(y, k, d) : y, 4);
        }

        int madeBy(int t, int g, int d) {
            int tall = madeText.size > 0 ? madeText.gives(t, g, d) : t;
            return Math.max(0, Math.min(MOST_STILTS, tall));
        }

        void drawSpring() {
            spring = draw() % CELLS;
            rises[day % PLACES] = draw() % (MOST_RISE + 1);
        }

        private int draw() {
            z = z * 1103515245 + 12345;
            return z >>> 8;
        }

        void daysGo(int n) {
            for (int i = 0; i < n; i++) {
                dayGoes();
            }
        }

        void dayGoes() {
            waterRises();
            for (int i = 0; i < people; i++) {
                if (isWet(i)) {
                    getsWet(i);
                }
            }
            day++;
        }

        /** DAYS without their people, by whom no water ever changes. */
        void waterGoes(int n) {
            for (int i = 0; i < n; i++) {
                waterRises();
                day++;
            }
        }

        private void waterRises() {
            water[spring] = Math.min(MOST_WATER, water[spring] + rises[day % PLACES]);
            for (int turn = 0; turn < 4; turn++) {
                for (int i = 0; i < CELLS; i++) {
                    if (water[i] > 0 && walled[i] == 0) {
                        flowFrom(i);
                    }
                }
            }
        }

        private void flowFrom(int from) {
            int to = -1;
            int least = 0;
            for (int i = WAYS * from; i < WAYS * from + WAYS; i++) {
                int at = BESIDE[i];
                if (at >= 0 && walled[at] == 0) {
                    int level = ground[at] + water[at];
                    if (to < 0 || level < least) {
                        to = at;
                        least = level;
                    }
                }
            }
            if (to >= 0 && level(from) - least >= 2 && water[to] < MOST_WATER) {
                water[from]--;
                water[to]++;
            }
        }

        private void getsWet(int one) {
            knows[one] |= kept[cell[one]];
            switch (does(one)) {
                case 1:
                    stilts[one] = Math.min(MOST_STILTS, stilts[one] + 1);
                    break;
                case 2:
                    stilts[one] = 0;
                    break;
                case 3:
                    cell[one] = highestBeside(cell[one]);
                    break;
                default:
                    break;
            }
        }

        private int highestBeside(int from) {
            int best = from;
            int most = -1;
            for (int i = WAYS * from; i < WAYS * from + WAYS; i++) {
                int at = BESIDE[i];
                if (at >= 0 && ground[at] > most) {
                    best = at;
                    most = ground[at];
                }
            }
            return best;
        }
    }

    /** A TEXT as steps, what is worked on ahead of what works on it: numbers from 0 on, -1 .. -3 NAMES, else less a sign. */
    private static final class Text {
        private static final int COMPARING = 2;
        private static final int LEVELS = 5;

        /** 0: there is no TEXT, for each has a step. */
        int size;
        private final int[] steps = new int[MOST_BYTES];
        private final int[] stack = new int[MOST_BYTES];
        private Row tape;
        private String names;
        private int place;

        void copyFrom(Text other) {
            size = other.size;
            System.arraycopy(other.steps, 0, steps, 0, size);
        }

        /** Reads all bytes of a row as a TEXT: the FAULT, or -1 if there is none. */
        int read(Row bytes, String itsNames) {
            tape = bytes;
            names = itsNames;
            place = 0;
            size = 0;
            return readLevel(0, 0) && place == tape.size ? -1 : place;
        }

        private int next() {
            return place < tape.size ? tape.numbers[place] : -1;
        }

        private void step(int what) {
            if (size < MOST_BYTES) {
                steps[size] = what;
                size++;
            }
        }

        private static int levelOf(int sign) {
            switch (sign) {
                case '|': return 0;
                case '&': return 1;
                case '<': case '=': case '>': return COMPARING;
                case '+': case '-': return 3;
                case '*': case '/': case '%': return 4;
                default: return -1;
            }
        }

        /** T (0), A, B, S or P (4). No byte is passed that can't stand there, so a place where it stops is the FAULT. */
        private boolean readLevel(int level, int open) {
            if (level >= LEVELS) {
                return readUnit(open);
            }
            if (!readLevel(level + 1, open)) {
                return false;
            }
            int most = level == COMPARING ? 1 : MOST_BYTES;
            for (int i = 0; i < most && levelOf(next()) == level; i++) {
                int sign = next();
                place++;
                if (!readLevel(level + 1, open)) {
                    return false;
                }
                step(-sign);
            }
            return true;
        }

        private boolean readUnit(int open) {
            int sign = next();
            if (sign >= '0' && sign <= '9') {
                readNumber();
                return true;
            }
            int name = sign < 0 ? -1 : names.indexOf((char) sign);
            if (name >= 0) {
                place++;
                step(-1 - name);
                return true;
            }
            if (open >= MOST_OPEN) {
                return false;
            }
            if (sign == '!') {
                place++;
                boolean whole = readUnit(open + 1);
                step(-'!');
                return whole;
            }
            return sign == '(' && readBracket(open + 1);
        }

        private boolean readBracket(int open) {
            place++;
            if (!readLevel(0, open) || next() != ')') {
                return false;
            }
            place++;
            return true;
        }

        private void readNumber() {
            int number = 0;
            for (int i = 0; i < 4 && next() >= '0' && next() <= '9'; i++) {
                number = 10 * number + next() - '0';
                place++;
            }
            step(number);
        }

        int gives(int a, int b, int c) {
            int top = -1;
            for (int i = 0; i < size; i++) {
                int what = steps[i];
                if (what >= -3 && top < MOST_BYTES - 1) {
                    top++;
                    stack[top] = what >= 0 ? what : what == -1 ? a : what == -2 ? b : c;
                } else if (what == -'!' && top >= 0) {
                    stack[top] = stack[top] == 0 ? 1 : 0;
                } else if (top >= 1) {
                    top--;
                    stack[top] = worked(-what, stack[top], stack[top + 1]);
                }
            }
            return stack[0];
        }

        private static int worked(int sign, int left, int right) {
            switch (sign) {
                case '|': return left != 0 || right != 0 ? 1 : 0;
                case '&': return left != 0 && right != 0 ? 1 : 0;
                case '<': return left < right ? 1 : 0;
                case '=': return left == right ? 1 : 0;
                case '>': return left > right ? 1 : 0;
                case '+': return left + right;
                case '-': return left - right;
                case '*': return left * right;
                case '/': return right == 0 ? 0 : left / right;
                default: return right == 0 ? 0 : left % right;
            }
        }
    }

    /** Numbers in a row: THE TAPE, those that wait, a SHEET. */
    private static final class Row {
        final int[] numbers;
        int size;
        /** Of a SHEET; 0: it is missing. */
        int bits;

        Row(int most) {
            numbers = new int[most];
        }

        void add(int v) {
            if (size < numbers.length) {
                numbers[size] = v;
                size++;
            }
        }

        void clear(int itsBits, int n) {
            bits = itsBits;
            size = n;
            for (int i = 0; i < numbers.length; i++) {
                numbers[i] = 0;
            }
        }

        void copyFrom(Row other) {
            size = other.size;
            System.arraycopy(other.numbers, 0, numbers, 0, size);
        }

        int lowest(int v) {
            return bits == 8 ? (byte) v : bits == 16 ? (short) v : v;
        }
    }

    /** Who speaks in the latest voice(), and THE TRACE of it. */
    private static final class Voice {
        int k;
        int m;
        boolean parted;
        final int[] trace = new int[MOST_TRACED];
        int size;

        void opens(int number, int itsM) {
            k = number;
            m = itsM;
            parted = false;
            size = 0;
        }

        void begins(int number) {
            if (size < MOST_TRACED) {
                trace[size] = number;
                size++;
            }
        }
    }

    private static class Goer {
        int acts(World world, int one) {
            return 1;
        }

        int tall(World world, int one) {
            return 6;
        }

        int wades(Voice v, int x) {
            v.begins(10);
            return x + v.k;
        }

        int knows(Voice v, int x) {
            v.begins(11);
            return wades(v, x) * 2;
        }

        int sits(Voice v, int x) {
            v.begins(12);
            return knows(v, x) - v.m;
        }

        int parts(Voice v, int x) {
            v.begins(13);
            int by = v.m - v.k;
            if (by == 0) {
                v.parted = true;
                return 0;
            }
            return x / by;
        }
    }

    private static class Postman extends Goer {
        int acts(World world, int one) {
            return 3;
        }

        int tall(World world, int one) {
            return super.tall(world, one) + 2;
        }

        int wades(Voice v, int x) {
            v.begins(20);
            return super.wades(v, x) - 4;
        }

        int parts(Voice v, int x) {
            v.begins(21);
            int share = super.parts(v, x);
            // what is PARTED ends there: knows(1) doesn't begin
            return v.parted ? 0 : share + knows(v, 1);
        }
    }

    private static class Young extends Goer {
        int acts(World world, int one) {
            return Integer.bitCount(world.knows[one]) > 3 ? 2 : super.acts(world, one);
        }

        int tall(World world, int one) {
            return super.tall(world, one) - world.m[one] / 2;
        }

        int knows(Voice v, int x) {
            v.begins(30);
            return 0 - super.knows(v, x);
        }
    }

    private static final class Lame extends Goer {
        int acts(World world, int one) {
            return 0;
        }

        int tall(World world, int one) {
            return 0;
        }

        int sits(Voice v, int x) {
            v.begins(40);
            return super.sits(v, x / 2);
        }
    }

    private static final class Boots extends Postman {
        int acts(World world, int one) {
            return world.day % 2 == 0 ? super.acts(world, one) : 1;
        }

        int tall(World world, int one) {
            return super.tall(world, one) + world.m[one];
        }

        int wades(Voice v, int x) {
            v.begins(50);
            return super.wades(v, x) * 3;
        }

        int sits(Voice v, int x) {
            v.begins(51);
            return super.sits(v, x) ^ v.k;
        }
    }

    private static final class Bold extends Young {
        int acts(World world, int one) {
            return world.downOnes() > 1 ? 2 : super.acts(world, one);
        }

        int tall(World world, int one) {
            return super.tall(world, one) / 2;
        }

        int knows(Voice v, int x) {
            v.begins(60);
            return super.knows(v, x + 1);
        }
    }

    private static final class Parr extends Goer {
        int acts(World world, int one) {
            return world.m[one] > 4 ? 2 : 0;
        }

        int tall(World world, int one) {
            return Integer.bitCount(world.knows[one]);
        }

        int wades(Voice v, int x) {
            v.begins(70);
            return 9;
        }

        int knows(Voice v, int x) {
            v.begins(71);
            return super.knows(v, x) + v.m;
        }
    }
}
