import java.util.Arrays;

/** A hill in which two heads dig toward where each hears the other, as it was some years ago. */
public final class TunnelHearsay {
    private static final int LOW = -1000000000;
    private static final int BEYOND = LOW - 1;
    private static final int NONE = LOW - 2;
    private static final int STATE = LOW - 3;
    private static final int FULL = LOW - 4;
    private static final int KIND = LOW - 5;
    private static final int ERRORS = 5;

    private static final int CELLS = 64;
    private static final int WIDTH = 8;
    private static final int WAYS = 4;
    private static final int NO_WAY = 4;
    private static final int NOWHERE = -1;
    private static final int HEADS = 2;
    private static final int MOST_ROCK = 9;
    private static final int MOST_POWER = 20;
    private static final int MOST_WORK = 99;
    private static final int MOST_DELAY = 9;
    private static final int MOST_APART = 14;
    private static final int LAST_YEAR = 9999;
    private static final int FORESIGHT = 60;
    private static final int MOST_LOOSE = 40;
    private static final int MOST_ODDS = 30;
    private static final int MOST_HAND = 200;

    /** The kind 0, ENGINEER, is what is left where kinds are told apart: it has no name here. */
    private static final int SURVEYOR = 1;
    private static final int DREAMER = 2;
    private static final int FOREMAN = 3;
    private static final int PLUMB = 4;
    private static final int ECHO = 5;
    private static final int CLERK = 6;
    private static final int KINDS = 7;
    private static final int MOST_ENGINEERS = 8;
    private static final int NO_SIDE = 2;
    private static final int[] ABOVE = {-1, 0, 0, 0, 1, 2, 3};
    private static final int MOST_ABOVE = 2;

    private static final int USES = 2;
    private static final int TAPE_ROOM = 50;
    private static final int FAULT_BASE = -10;
    private static final int ACTS = 4;
    private static final int TRACE_ROOM = 40;
    private static final int SHEETS = 4;
    private static final int SHEET_ROOM = 40;
    private static final int WAITING_ROOM = 20;

    private final Scene now = new Scene();
    private final Scene kept = new Scene();
    private final Digging digging = new Digging(now.hill, now.crew, now.ears, now.digs);
    private final Digging thought = new Digging(new Hill(), new Crew(), now.ears, now.digs);
    private final Reader reader = new Reader(now.tape);
    private final Walks walks = new Walks(now.hill);
    private final Voices voices = new Voices();
    private final Sheet[] sheets = new Sheet[SHEETS];
    private final int[] errors = new int[ERRORS + 1];
    private int images;

    public TunnelHearsay() {
        for (int i = 0; i < SHEETS; i++) {
            sheets[i] = new Sheet();
        }
    }

    // ---- the hill, heads

    public int rock(int cell, int v) {
        if (isBeyond(cell, CELLS - 1) || isBeyond(v, MOST_ROCK)) {
            return failed(BEYOND);
        }
        int before = now.hill.rock[cell];
        now.hill.rock[cell] = v;
        return before;
    }

    public int dig(int cell, int v) {
        if (isBeyond(cell, CELLS - 1) || isBeyond(v, 1)) {
            return failed(BEYOND);
        }
        if (v == 0 && now.hill.headsAt(cell) != 0) {
            return failed(STATE);
        }
        int before = now.hill.dug[cell];
        now.hill.dug[cell] = v;
        return before;
    }

    public int ofCell(int cell, int what) {
        if (isBeyond(cell, CELLS - 1) || isBeyond(what, 2)) {
            return failed(BEYOND);
        }
        switch (what) {
            case 0:
                return now.hill.rock[cell];
            case 1:
                return now.hill.dug[cell];
            default:
                return now.hill.headsAt(cell);
        }
    }

    public int head(int head, int what, int v) {
        if (isBeyond(head, HEADS - 1) || isBeyond(what, 2) || isBeyond(v, mostOfHead(what))) {
            return failed(BEYOND);
        }
        Hill hill = now.hill;
        int before;
        switch (what) {
            case 0:
                before = hill.at[head];
                hill.settle(head, v);
                return before;
            case 1:
                before = hill.power[head];
                hill.power[head] = v;
                return before;
            default:
                before = hill.work[head];
                hill.work[head] = v;
                return before;
        }
    }

    private static int mostOfHead(int what) {
        switch (what) {
            case 0:
                return CELLS - 1;
            case 1:
                return MOST_POWER;
            default:
                return MOST_WORK;
        }
    }

    public int ofHead(int head, int what) {
        if (isBeyond(head, HEADS - 1) || isBeyond(what, 5)) {
            return failed(BEYOND);
        }
        switch (what) {
            case 0:
                return now.hill.at[head];
            case 1:
                return now.hill.power[head];
            case 2:
                return now.hill.work[head];
            case 3:
                return now.hill.last[head];
            case 4:
                return digging.hearkens(head);
            default:
                return now.hill.hears(head);
        }
    }

    public int delay(int v) {
        if (isBeyond(v, MOST_DELAY)) {
            return failed(BEYOND);
        }
        int before = now.hill.delay;
        now.hill.delay = v;
        return before;
    }

    // ---- engineers

    public int engineer(int km, int side) {
        if (isBeyond(km, 10 * KINDS - 1) || isBeyond(side, HEADS - 1)) {
            return failed(BEYOND);
        }
        if (now.crew.size >= MOST_ENGINEERS) {
            return failed(FULL);
        }
        int number = now.crew.size;
        now.crew.size++;
        now.crew.kind[number] = km / 10;
        now.crew.m[number] = km % 10;
        now.crew.side[number] = side;
        return number;
    }

    public int ofEngineer(int engineer, int what) {
        if (isNobody(engineer) || isBeyond(what, 4)) {
            return failed(BEYOND);
        }
        switch (what) {
            case 0:
                return now.crew.kind[engineer];
            case 1:
                return now.crew.m[engineer];
            case 2:
                return now.crew.side[engineer];
            case 3:
                digging.listen(now.crew.side[engineer]);
                return digging.pointOf(engineer);
            default:
                digging.listen(now.crew.side[engineer]);
                return digging.weightOf(engineer);
        }
    }

    public int change(int engineer, int v) {
        if (isNobody(engineer) || isBeyond(v, HEADS - 1)) {
            return failed(BEYOND);
        }
        int before = now.crew.side[engineer];
        now.crew.side[engineer] = v;
        return before;
    }

    public int become(int engineer, int km) {
        if (isNobody(engineer) || isBeyond(km, 10 * KINDS - 1)) {
            return failed(BEYOND);
        }
        int before = now.crew.kind[engineer];
        now.crew.kind[engineer] = km / 10;
        now.crew.m[engineer] = km % 10;
        return before;
    }

    public int as(int engineer, int kind) {
        if (isNobody(engineer) || isBeyond(kind, KINDS - 1)) {
            return failed(BEYOND);
        }
        if (!Crew.isOrIsUnder(now.crew.kind[engineer], kind)) {
            return failed(KIND);
        }
        return now.crew.m[engineer];
    }

    // ---- texts

    public int feed(long word, int n) {
        if (n < 1 || n > 8) {
            return failed(BEYOND);
        }
        if (now.tape.size + n > TAPE_ROOM) {
            return failed(FULL);
        }
        for (int i = 0; i < n; i++) {
            now.tape.add((int) (word >>> (8 * i)) & 255);
        }
        return now.tape.size;
    }

    public int text(int use) {
        if (isBeyond(use, USES - 1)) {
            return failed(BEYOND);
        }
        int fault = reader.read(use);
        now.tape.size = 0;
        if (fault != Reader.SOUND) {
            return FAULT_BASE - fault;
        }
        now.lawOf(use).codes.copyFrom(reader.codes);
        return 1;
    }

    public int law(int use, int a, int b, int c) {
        if (isBeyond(use, USES - 1)) {
            return failed(BEYOND);
        }
        return now.lawOf(use).gives(a, b, c);
    }

    // ---- years

    public int years(int n) {
        if (n < 1 || n > FORESIGHT) {
            return failed(BEYOND);
        }
        if (now.hill.year + n > LAST_YEAR) {
            return failed(STATE);
        }
        for (int i = 0; i < n; i++) {
            digging.goYear();
        }
        return now.hill.gap();
    }

    public int loose(int n) {
        if (n < 1 || n > MOST_LOOSE) {
            return failed(BEYOND);
        }
        if (now.hill.year + n > LAST_YEAR) {
            return failed(STATE);
        }
        for (int i = 0; i < n; i++) {
            int cell = now.draw() % CELLS;
            now.hill.rock[cell] = now.draw() % (MOST_ROCK + 1);
            digging.goYear();
        }
        return now.hill.gap();
    }

    // ---- what would be

    public int then(int n, int head, int what) {
        if (isBeyond(n, FORESIGHT) || isBeyond(head, HEADS - 1) || isBeyond(what, 1)) {
            return failed(BEYOND);
        }
        think();
        gapBehind(n);
        return what == 0 ? thought.hill.at[head] : thought.hill.work[head];
    }

    public int meets() {
        think();
        for (int n = 0; n <= FORESIGHT; n++) {
            if (thought.hill.gap() == 0) {
                return n;
            }
            thought.goYear();
        }
        return failed(NONE);
    }

    public int apart(int n) {
        if (isBeyond(n, FORESIGHT)) {
            return failed(BEYOND);
        }
        think();
        return gapBehind(n);
    }

    public int delayFor(int n) {
        if (isBeyond(n, FORESIGHT)) {
            return failed(BEYOND);
        }
        int best = 0;
        int least = MOST_APART + 1;
        for (int v = 0; v <= MOST_DELAY; v++) {
            think();
            thought.hill.delay = v;
            int gap = gapBehind(n);
            if (gap < least) {
                least = gap;
                best = v;
            }
        }
        return best;
    }

    public int powerFor(int head, int n, int v) {
        if (isBeyond(head, HEADS - 1) || isBeyond(n, FORESIGHT) || isBeyond(v, MOST_APART)) {
            return failed(BEYOND);
        }
        for (int power = 0; power <= MOST_POWER; power++) {
            think();
            thought.hill.power[head] = power;
            if (gapBehind(n) <= v) {
                return power;
            }
        }
        return failed(NONE);
    }

    public int needless(int n) {
        if (isBeyond(n, FORESIGHT)) {
            return failed(BEYOND);
        }
        think();
        int gap = gapBehind(n);
        int set = 0;
        for (int i = 0; i < now.crew.size; i++) {
            think();
            thought.crew.side[i] = NO_SIDE;
            if (gapBehind(n) <= gap) {
                set |= 1 << i;
            }
        }
        return set;
    }

    public int heard(int sheet, int head, int what) {
        if (isBeyond(sheet, SHEETS - 1) || isBeyond(head, HEADS - 1) || isBeyond(what, 1)) {
            return failed(BEYOND);
        }
        if (sheets[sheet].bits == 0) {
            return failed(NONE);
        }
        int many = 0;
        int least = NOWHERE;
        for (int cell = CELLS - 1; cell >= 0; cell--) {
            think();
            thought.hill.settle(1 - head, cell);
            if (goesAsTold(sheets[sheet], head)) {
                many++;
                least = cell;
            }
        }
        if (what == 0) {
            return many;
        }
        return least == NOWHERE ? failed(NONE) : least;
    }

    public int which(int sheet, int engineer) {
        if (isBeyond(sheet, SHEETS - 1) || isNobody(engineer)) {
            return failed(BEYOND);
        }
        if (sheets[sheet].bits == 0) {
            return failed(NONE);
        }
        int set = 0;
        for (int kind = 0; kind < KINDS; kind++) {
            think();
            thought.crew.kind[engineer] = kind;
            if (goesAsTold(sheets[sheet], now.crew.side[engineer])) {
                set |= 1 << kind;
            }
        }
        return set;
    }

    public int join(int a, int b) {
        if (isBeyond(a, CELLS - 1) || isBeyond(b, CELLS - 1)) {
            return failed(BEYOND);
        }
        return walks.leastRock(a, b);
    }

    public int steps(int a, int b) {
        if (isBeyond(a, CELLS - 1) || isBeyond(b, CELLS - 1)) {
            return failed(BEYOND);
        }
        int fewest = walks.fewestWays(a, b);
        return fewest == Walks.UNREACHED ? failed(NONE) : fewest;
    }

    public int hand(int cell, int way, int n) {
        if (isBeyond(cell, CELLS - 1) || isBeyond(way, WAYS - 1) || isBeyond(n, MOST_HAND)) {
            return failed(BEYOND);
        }
        if (now.hill.dug[cell] == 0) {
            return failed(STATE);
        }
        return walks.alongLeft(cell, way, n);
    }

    public int parts() {
        return walks.partsDug();
    }

    public int odds(int n, int v, int part) {
        if (isBeyond(n, MOST_ODDS) || isBeyond(v, MOST_APART) || isBeyond(part, 1)) {
            return failed(BEYOND);
        }
        int good = 0;
        for (int delay = 0; delay <= MOST_DELAY; delay++) {
            think();
            thought.hill.delay = delay;
            if (gapBehind(n) <= v) {
                good++;
            }
        }
        int all = MOST_DELAY + 1;
        int shared = sharedFactor(good, all);
        return part == 0 ? good / shared : all / shared;
    }

    // ---- draws, voices, sheets, images, what is told

    public int seed(int v) {
        int before = now.z;
        now.z = v;
        return before;
    }

    public int voice(int engineer, int act, int x) {
        if (isNobody(engineer) || isBeyond(act, ACTS - 1)) {
            return failed(BEYOND);
        }
        return voices.speak(now.crew, engineer, act, x);
    }

    public int trace(int i) {
        if (isBeyond(i, voices.begun.size - 1)) {
            return failed(NONE);
        }
        return voices.begun.numbers[i];
    }

    public int sheet(int sheet, int bits, int n) {
        if (isBeyond(sheet, SHEETS - 1) || bits != 0 && bits != 8 && bits != 16 && bits != 32) {
            return failed(BEYOND);
        }
        if (bits == 0) {
            sheets[sheet].begin(0, 0);
            return 1;
        }
        if (n < 0) {
            return failed(STATE);
        }
        if (n > SHEET_ROOM) {
            return failed(BEYOND);
        }
        sheets[sheet].begin(bits, n);
        return 1;
    }

    public int put(int sheet, int i, int v) {
        if (isBeyond(sheet, SHEETS - 1)) {
            return failed(BEYOND);
        }
        if (sheets[sheet].bits == 0) {
            return failed(NONE);
        }
        if (isBeyond(i, sheets[sheet].size - 1)) {
            return failed(BEYOND);
        }
        sheets[sheet].write(i, v);
        return 1;
    }

    public int move(int sheet, int i, int other, int j, int n) {
        if (isBeyond(sheet, SHEETS - 1) || isBeyond(other, SHEETS - 1)) {
            return failed(BEYOND);
        }
        Sheet from = sheets[sheet];
        Sheet to = sheets[other];
        if (from.bits == 0 || to.bits == 0) {
            return failed(NONE);
        }
        if (from.bits != to.bits) {
            return failed(KIND);
        }
        if (!from.holds(i, n) || !to.holds(j, n)) {
            return failed(BEYOND);
        }
        System.arraycopy(from.numbers, i, to.numbers, j, n);
        return n;
    }

    public int rocks(int sheet) {
        if (isBeyond(sheet, SHEETS - 1)) {
            return failed(BEYOND);
        }
        Sheet from = sheets[sheet];
        if (from.bits == 0) {
            return failed(NONE);
        }
        for (int i = 0; i < from.size; i++) {
            if (isBeyond(from.numbers[i], MOST_ROCK)) {
                return i;
            }
            now.hill.rock[i] = from.numbers[i];
        }
        return from.size;
    }

    public int judge(int sheet) {
        if (isBeyond(sheet, SHEETS - 1)) {
            return failed(BEYOND);
        }
        Sheet said = sheets[sheet];
        if (said.bits == 0) {
            return failed(NONE);
        }
        int both = Math.min(said.size, now.crew.size);
        for (int i = 0; i < both; i++) {
            if (said.numbers[i] != now.crew.side[i]) {
                return i;
            }
        }
        return said.size == now.crew.size ? -1 : both;
    }

    public int image() {
        kept.copyFrom(now);
        images++;
        return images;
    }

    public int restore() {
        if (images == 0) {
            return failed(NONE);
        }
        now.copyFrom(kept);
        return now.hill.year;
    }

    public int tell(int v) {
        if (!now.waiting.add(v)) {
            return failed(FULL);
        }
        return now.waiting.size;
    }

    public int check() {
        int waited = now.waiting.size;
        now.waiting.size = 0;
        think();
        for (int i = 0; i < waited; i++) {
            thought.goYear();
            if (now.waiting.numbers[i] != thought.hill.gap()) {
                return 1 + i;
            }
        }
        return 0;
    }

    public int count(int what) {
        switch (what) {
            case 0:
                return now.crew.size;
            case 1:
                return now.hill.year;
            case 2:
                return now.hill.delay;
            case 3:
                return now.hill.gap();
            case 4:
                return sumOf(now.hill.dug, CELLS);
            case 5:
                return sumOf(now.hill.rock, CELLS);
            case 6:
                return sumOf(now.crew.side, now.crew.size);
            case 7:
                return now.tape.size;
            case 8:
                return now.waiting.size;
            case 9:
                return voices.begun.size;
            case 10:
                return now.z;
            default:
                return failed(BEYOND);
        }
    }

    public int told(int k) {
        if (k < 1 || k > ERRORS) {
            return failed(BEYOND);
        }
        return errors[k];
    }

    // ---- what the acts share

    private int failed(int error) {
        errors[LOW - error]++;
        return error;
    }

    private static boolean isBeyond(int v, int most) {
        return v < 0 || v > most;
    }

    private boolean isNobody(int engineer) {
        return isBeyond(engineer, now.crew.size - 1);
    }

    /** What is only thought goes on copies, so that nothing must be taken back. */
    private void think() {
        thought.hill.copyFrom(now.hill);
        thought.crew.copyFrom(now.crew);
    }

    private int gapBehind(int n) {
        for (int i = 0; i < n; i++) {
            thought.goYear();
        }
        return thought.hill.gap();
    }

    private boolean goesAsTold(Sheet sheet, int head) {
        for (int i = 0; i < sheet.size; i++) {
            thought.goYear();
            if (thought.hill.at[head] != sheet.numbers[i]) {
                return false;
            }
        }
        return true;
    }

    /** The greatest factor that both have; 1 at least, so that one may divide by it. */
    private static int sharedFactor(int a, int b) {
        for (int factor = b; factor > 1; factor--) {
            if (a % factor == 0 && b % factor == 0) {
                return factor;
            }
        }
        return 1;
    }

    private static int sumOf(int[] row, int n) {
        int sum = 0;
        for (int i = 0; i < n && i < row.length; i++) {
            sum += row[i];
        }
        return sum;
    }

    /** Numbers one behind the other, in room that is made but once. */
    private static final class Row {
        final int[] numbers;
        int size;

        Row(int room) {
            numbers = new int[Math.max(0, room)];
        }

        boolean add(int v) {
            if (size >= numbers.length) {
                return false;
            }
            numbers[size] = v;
            size++;
            return true;
        }

        void copyFrom(Row other) {
            size = Math.min(other.size, numbers.length);
            System.arraycopy(other.numbers, 0, numbers, 0, size);
        }
    }

    /** All that an image keeps. */
    private static final class Scene {
        final Hill hill = new Hill();
        final Crew crew = new Crew();
        final Law ears = new Law();
        final Law digs = new Law();
        final Row tape = new Row(TAPE_ROOM);
        final Row waiting = new Row(WAITING_ROOM);
        int z = 1;

        Law lawOf(int use) {
            return use == 0 ? ears : digs;
        }

        int draw() {
            z = z * 1103515245 + 12345;
            return z >>> 8;
        }

        void copyFrom(Scene other) {
            hill.copyFrom(other.hill);
            crew.copyFrom(other.crew);
            ears.codes.copyFrom(other.ears.codes);
            digs.codes.copyFrom(other.digs.codes);
            tape.copyFrom(other.tape);
            waiting.copyFrom(other.waiting);
            z = other.z;
        }
    }

    /** The cells and the heads. */
    private static final class Hill {
        /** As far back as the greatest delay hears, and this year. */
        private static final int MEMORY = MOST_DELAY + 1;

        final int[] rock = new int[CELLS];
        final int[] dug = new int[CELLS];
        final int[] at = new int[HEADS];
        final int[] power = new int[HEADS];
        final int[] work = new int[HEADS];
        final int[] last = new int[HEADS];
        /** Where each head was in its latest years; a ring, so that a year writes one place. */
        private final int[] was = new int[HEADS * MEMORY];
        private int turn;
        int delay = 2;
        int year;

        Hill() {
            for (int cell = 0; cell < CELLS; cell++) {
                rock[cell] = cell % (MOST_ROCK + 1);
            }
            for (int head = 0; head < HEADS; head++) {
                power[head] = 5;
                last[head] = NO_WAY;
            }
            settle(0, 24);
            settle(1, 31);
        }

        static int beside(int cell, int way) {
            int x = cell % WIDTH;
            int y = cell / WIDTH;
            switch (way) {
                case 0:
                    return y > 0 ? cell - WIDTH : NOWHERE;
                case 1:
                    return x < WIDTH - 1 ? cell + 1 : NOWHERE;
                case 2:
                    return y < WIDTH - 1 ? cell + WIDTH : NOWHERE;
                case 3:
                    return x > 0 ? cell - 1 : NOWHERE;
                default:
                    return NOWHERE;
            }
        }

        static int far(int a, int b) {
            return Math.abs(a % WIDTH - b % WIDTH) + Math.abs(a / WIDTH - b / WIDTH);
        }

        int gap() {
            return far(at[0], at[1]);
        }

        int headsAt(int cell) {
            return (at[0] == cell ? 1 : 0) | (at[1] == cell ? 2 : 0);
        }

        /** Puts a head, as if it had never been elsewhere. */
        void settle(int head, int cell) {
            at[head] = cell;
            dug[cell] = 1;
            for (int i = 0; i < MEMORY; i++) {
                was[head * MEMORY + i] = cell;
            }
        }

        int hears(int head) {
            return was[(1 - head) * MEMORY + (turn + MEMORY - delay) % MEMORY];
        }

        void go(int head, int way, Law digs) {
            int cell = beside(at[head], way);
            if (cell == NOWHERE) {
                return;
            }
            if (dug[cell] == 0) {
                int more = digs.gives(power[head], rock[cell], work[head]);
                work[head] = Math.min(MOST_WORK, work[head] + more);
                if (work[head] < rock[cell]) {
                    return;
                }
                dug[cell] = 1;
            }
            at[head] = cell;
            work[head] = 0;
            last[head] = way;
        }

        void endYear() {
            year++;
            turn = (turn + 1) % MEMORY;
            for (int head = 0; head < HEADS; head++) {
                was[head * MEMORY + turn] = at[head];
            }
        }

        void copyFrom(Hill other) {
            System.arraycopy(other.rock, 0, rock, 0, CELLS);
            System.arraycopy(other.dug, 0, dug, 0, CELLS);
            System.arraycopy(other.at, 0, at, 0, HEADS);
            System.arraycopy(other.power, 0, power, 0, HEADS);
            System.arraycopy(other.work, 0, work, 0, HEADS);
            System.arraycopy(other.last, 0, last, 0, HEADS);
            System.arraycopy(other.was, 0, was, 0, HEADS * MEMORY);
            turn = other.turn;
            delay = other.delay;
            year = other.year;
        }
    }

    /** The engineers, by their numbers. */
    private static final class Crew {
        final int[] kind = new int[MOST_ENGINEERS];
        final int[] m = new int[MOST_ENGINEERS];
        final int[] side = new int[MOST_ENGINEERS];
        int size;

        static boolean isOrIsUnder(int kind, int upper) {
            int k = kind;
            for (int i = 0; i <= MOST_ABOVE && k >= 0 && k < KINDS; i++) {
                if (k == upper) {
                    return true;
                }
                k = ABOVE[k];
            }
            return false;
        }

        void copyFrom(Crew other) {
            System.arraycopy(other.kind, 0, kind, 0, MOST_ENGINEERS);
            System.arraycopy(other.m, 0, m, 0, MOST_ENGINEERS);
            System.arraycopy(other.side, 0, side, 0, MOST_ENGINEERS);
            size = other.size;
        }
    }

    /** How the years go, on a hill with a crew under two laws. */
    private static final class Digging {
        final Hill hill;
        final Crew crew;
        private final Law ears;
        private final Law digs;
        private final int[] votes = new int[WAYS];
        /** Which way the head that listens went last, and how far off what it hears is: by x, by y, together. */
        private int last;
        private int right;
        private int down;
        private int off;
        private boolean alongX;

        Digging(Hill hill, Crew crew, Law ears, Law digs) {
            this.hill = hill;
            this.crew = crew;
            this.ears = ears;
            this.digs = digs;
        }

        void goYear() {
            // Heads that have met go nowhere, whatever they would hearken to.
            if (hill.at[0] != hill.at[1]) {
                int first = hearkens(0);
                int second = hearkens(1);
                hill.go(0, first, digs);
                hill.go(1, second, digs);
            }
            hill.endYear();
        }

        int hearkens(int head) {
            listen(head);
            Arrays.fill(votes, 0);
            for (int i = 0; i < crew.size; i++) {
                if (crew.side[i] == head) {
                    int way = pointOf(i);
                    if (way >= 0 && way < WAYS) {
                        votes[way] += weightOf(i);
                    }
                }
            }
            int best = NO_WAY;
            int most = 0;
            for (int way = 0; way < WAYS; way++) {
                if (votes[way] > most) {
                    most = votes[way];
                    best = way;
                }
            }
            return best;
        }

        /** Ahead of pointOf and weightOf: what a head hears is the same for all of its side. */
        void listen(int head) {
            int here = hill.at[head];
            int there = hill.hears(head);
            last = hill.last[head];
            right = there % WIDTH - here % WIDTH;
            down = there / WIDTH - here / WIDTH;
            off = Math.abs(right) + Math.abs(down);
            alongX = Math.abs(right) >= Math.abs(down);
        }

        int pointOf(int engineer) {
            int m = crew.m[engineer];
            switch (crew.kind[engineer]) {
                case SURVEYOR:
                    return pointAsSurveyor();
                case DREAMER:
                    return pointAsDreamer(m);
                case FOREMAN:
                    return pointAsForeman(m);
                case PLUMB:
                    return off > m && last != NO_WAY ? last : pointAsSurveyor();
                case ECHO:
                    return turned(pointAsDreamer(m), 2);
                case CLERK:
                    return hill.year % 2 == 0 ? NO_WAY : pointAsForeman(m);
                default:
                    return pointAsEngineer();
            }
        }

        private int pointAsEngineer() {
            if (off == 0) {
                return NO_WAY;
            }
            if (alongX) {
                return right > 0 ? 1 : 3;
            }
            return down > 0 ? 2 : 0;
        }

        private int pointAsSurveyor() {
            if (down == 0) {
                return pointAsEngineer();
            }
            return down > 0 ? 2 : 0;
        }

        private int pointAsDreamer(int m) {
            int way = pointAsEngineer();
            return hill.year % 5 == m % 5 ? turned(way, 2) : way;
        }

        private int pointAsForeman(int m) {
            int way = pointAsEngineer();
            return m > hill.year % 10 ? turned(way, 1) : way;
        }

        private static int turned(int way, int quarters) {
            return way == NO_WAY ? NO_WAY : (way + quarters) % WAYS;
        }

        /** What the text gives for one; it is this that counts, not the ears alone. */
        int weightOf(int engineer) {
            return ears.gives(earsOf(crew.kind[engineer], crew.m[engineer]), off, hill.year % 8);
        }

        private int earsOf(int kind, int m) {
            switch (kind) {
                case SURVEYOR:
                    return 2 + m / 3;
                case DREAMER:
                    return 1;
                case FOREMAN:
                    return 4;
                case PLUMB:
                    return 2 + m / 3 + (hill.year % 2 == 0 ? 1 : 0);
                case ECHO:
                    return off > m ? 1 : 0;
                default:
                    // The clerk's half of a foreman's ears is an engineer's again.
                    return 2;
            }
        }
    }

    /** A text as it is worked out: operands ahead of their sign, so that a stack is enough. */
    private static final class Law {
        /** Codes below NAME are numbers, those from SIGN on signs. */
        static final int NAME = 10000;
        static final int SIGN = 20000;
        private static final int MOST = 20;

        final Row codes = new Row(TAPE_ROOM);
        private final int[] stack = new int[TAPE_ROOM];

        /** Without a text it is the first name, held within the same bounds. */
        int gives(int a, int b, int c) {
            stack[0] = a;
            int depth = 0;
            for (int i = 0; i < codes.size; i++) {
                int code = codes.numbers[i];
                if (code < SIGN && depth < TAPE_ROOM) {
                    stack[depth] = operand(code, a, b, c);
                    depth++;
                } else if (code == SIGN + '!' && depth > 0) {
                    stack[depth - 1] = stack[depth - 1] == 0 ? 1 : 0;
                } else if (code > SIGN && depth > 1) {
                    depth--;
                    stack[depth - 1] = joined(code - SIGN, stack[depth - 1], stack[depth]);
                }
            }
            return Math.max(0, Math.min(MOST, stack[0]));
        }

        private static int operand(int code, int a, int b, int c) {
            switch (code) {
                case NAME:
                    return a;
                case NAME + 1:
                    return b;
                case NAME + 2:
                    return c;
                default:
                    return code;
            }
        }

        private static int joined(int sign, int a, int b) {
            switch (sign) {
                case '|':
                    return a != 0 || b != 0 ? 1 : 0;
                case '&':
                    return a != 0 && b != 0 ? 1 : 0;
                case '<':
                    return a < b ? 1 : 0;
                case '=':
                    return a == b ? 1 : 0;
                case '>':
                    return a > b ? 1 : 0;
                case '+':
                    return a + b;
                case '-':
                    return a - b;
                case '*':
                    return a * b;
                case '/':
                    return b == 0 ? 0 : a / b;
                default:
                    return b == 0 ? 0 : a % b;
            }
        }
    }

    /** Reads the tape as a text of a use. */
    private static final class Reader {
        static final int SOUND = -1;
        private static final int END = -1;
        private static final int MOST_OPEN = 5;
        private static final int MOST_DIGITS = 4;
        private static final int COMPARISON = 2;
        private static final int UNIT = 5;
        private static final int NO_LEVEL = -1;
        private static final int NAMES = 3;
        private static final char[] NAMES_OF_USES = {'e', 'd', 'y', 'p', 'r', 'w'};

        final Row codes = new Row(TAPE_ROOM);
        private final Row tape;
        private int use;
        private int place;
        private int fault;

        Reader(Row tape) {
            this.tape = tape;
        }

        /** The FAULT, or SOUND; the codes are of worth if it is sound alone. */
        int read(int use) {
            this.use = use;
            place = 0;
            fault = SOUND;
            codes.size = 0;
            readLevel(0, 0);
            if (place < tape.size) {
                failHere();
            }
            return fault;
        }

        /** Levels 0 to 4 are T, A, B, S, P of the grammar: each is the next one, joined by its signs. */
        private void readLevel(int level, int open) {
            if (level >= UNIT) {
                readUnit(open);
                return;
            }
            readLevel(level + 1, open);
            int most = level == COMPARISON ? 1 : TAPE_ROOM;
            for (int i = 0; i < most && levelOf(next()) == level; i++) {
                int sign = next();
                place++;
                readLevel(level + 1, open);
                codes.add(Law.SIGN + sign);
            }
        }

        private void readUnit(int open) {
            int sign = next();
            if (isDigit(sign)) {
                readNumber();
            } else if (nameOf(sign) >= 0) {
                place++;
                codes.add(Law.NAME + nameOf(sign));
            } else if (sign == '!' && open < MOST_OPEN) {
                place++;
                readUnit(open + 1);
                codes.add(Law.SIGN + sign);
            } else if (sign == '(' && open < MOST_OPEN) {
                place++;
                readLevel(0, open + 1);
                readClosing();
            } else {
                failHere();
            }
        }

        private void readNumber() {
            int number = 0;
            for (int i = 0; i < MOST_DIGITS && isDigit(next()); i++) {
                number = number * 10 + next() - '0';
                place++;
            }
            codes.add(number);
        }

        private void readClosing() {
            if (next() == ')') {
                place++;
            } else {
                failHere();
            }
        }

        /** Behind a fault all looks like the end, so that nothing more is read. */
        private int next() {
            return fault == SOUND && place < tape.size ? tape.numbers[place] : END;
        }

        private void failHere() {
            if (fault == SOUND) {
                fault = place;
            }
        }

        private static boolean isDigit(int sign) {
            return sign >= '0' && sign <= '9';
        }

        private int nameOf(int sign) {
            for (int i = 0; i < NAMES; i++) {
                if (NAMES_OF_USES[use * NAMES + i] == sign) {
                    return i;
                }
            }
            return -1;
        }

        private static int levelOf(int sign) {
            switch (sign) {
                case '|':
                    return 0;
                case '&':
                    return 1;
                case '<':
                case '=':
                case '>':
                    return COMPARISON;
                case '+':
                case '-':
                    return 3;
                case '*':
                case '/':
                case '%':
                    return 4;
                default:
                    return NO_LEVEL;
            }
        }
    }

    /** Ways through the hill. */
    private static final class Walks {
        static final int UNREACHED = 1000000;

        private final Hill hill;
        private final int[] price = new int[CELLS];
        private final int[] settled = new int[CELLS];
        private final int[] queue = new int[CELLS];

        Walks(Hill hill) {
            this.hill = hill;
        }

        int leastRock(int from, int to) {
            Arrays.fill(price, UNREACHED);
            Arrays.fill(settled, 0);
            price[from] = toll(from);
            for (int i = 0; i < CELLS; i++) {
                int cell = cheapest();
                if (cell == NOWHERE || cell == to) {
                    break;
                }
                settled[cell] = 1;
                for (int way = 0; way < WAYS; way++) {
                    int next = Hill.beside(cell, way);
                    if (next != NOWHERE) {
                        price[next] = Math.min(price[next], price[cell] + toll(next));
                    }
                }
            }
            return price[to];
        }

        private int toll(int cell) {
            return hill.dug[cell] == 1 ? 0 : hill.rock[cell];
        }

        private int cheapest() {
            int best = NOWHERE;
            int least = UNREACHED;
            for (int cell = 0; cell < CELLS; cell++) {
                if (settled[cell] == 0 && price[cell] < least) {
                    least = price[cell];
                    best = cell;
                }
            }
            return best;
        }

        int fewestWays(int from, int to) {
            Arrays.fill(price, UNREACHED);
            if (hill.dug[from] == 1) {
                flood(from);
            }
            return price[to];
        }

        int partsDug() {
            Arrays.fill(price, UNREACHED);
            int parts = 0;
            for (int cell = 0; cell < CELLS; cell++) {
                if (hill.dug[cell] == 1 && price[cell] == UNREACHED) {
                    flood(cell);
                    parts++;
                }
            }
            return parts;
        }

        /** Prices all that hangs together with a cell by the ways to it; each cell waits but once. */
        private void flood(int from) {
            price[from] = 0;
            queue[0] = from;
            int waiting = 1;
            for (int i = 0; i < waiting && i < CELLS; i++) {
                int cell = queue[i];
                for (int way = 0; way < WAYS; way++) {
                    int next = Hill.beside(cell, way);
                    if (isDug(next) && price[next] == UNREACHED && waiting < CELLS) {
                        price[next] = price[cell] + 1;
                        queue[waiting] = next;
                        waiting++;
                    }
                }
            }
        }

        private boolean isDug(int cell) {
            return cell != NOWHERE && hill.dug[cell] == 1;
        }

        int alongLeft(int from, int facing, int n) {
            int cell = from;
            int way = facing;
            for (int i = 0; i < n; i++) {
                int chosen = wayAlongLeft(cell, way);
                if (chosen == NO_WAY) {
                    break;
                }
                way = chosen;
                cell = Hill.beside(cell, way);
            }
            return cell;
        }

        private int wayAlongLeft(int cell, int way) {
            // From the left one (a quarter back) round to the opposite one.
            for (int quarters = 3; quarters <= 6; quarters++) {
                int tried = (way + quarters) % WAYS;
                if (isDug(Hill.beside(cell, tried))) {
                    return tried;
                }
            }
            return NO_WAY;
        }
    }

    /** The bodies of the kinds, and which of them began. */
    private static final class Voices {
        private static final int KNOCKS = 0;
        private static final int HEARS = 1;
        private static final int DIGS = 2;
        private static final int TELLS = 3;
        private static final int DEEPEST = 40;
        /** By kind, then act; 0: the kind has none of its own. */
        private static final int[] BODIES = {
            10, 11, 12, 13,
            20, 0, 0, 0,
            0, 30, 0, 0,
            0, 0, 40, 0,
            0, 0, 0, 50,
            0, 60, 0, 0,
            0, 0, 70, 71,
        };

        final Row begun = new Row(TRACE_ROOM);
        private int kind;
        private int n;
        private int m;

        int speak(Crew crew, int engineer, int act, int x) {
            begun.size = 0;
            kind = crew.kind[engineer];
            n = engineer;
            m = crew.m[engineer];
            return say(kind, act, x, 0);
        }

        /** An act by the body of a kind, or of the next one above that has one. */
        private int say(int from, int act, int x, int depth) {
            int k = from;
            for (int i = 0; i <= MOST_ABOVE && k >= 0 && k < KINDS && depth < DEEPEST; i++) {
                int body = BODIES[k * ACTS + act];
                k = ABOVE[k];
                if (body != 0) {
                    begun.add(body);
                    return bodyOf(body, k, x, depth + 1);
                }
            }
            return 0;
        }

        private int bodyOf(int body, int above, int x, int depth) {
            switch (body) {
                case 10:
                    return x + n;
                case 11:
                    return say(kind, KNOCKS, x, depth) * 2;
                case 12:
                    return x - m;
                case 13:
                    return say(kind, HEARS, x, depth) ^ say(kind, DIGS, x, depth);
                case 20:
                    return say(above, KNOCKS, x, depth) * 3;
                case 30:
                    return say(above, HEARS, x, depth) - say(kind, DIGS, 1, depth);
                case 40:
                    return -say(above, DIGS, x, depth);
                case 50:
                    return say(above, TELLS, x, depth) - say(kind, KNOCKS, 2, depth);
                case 60:
                    return say(above, HEARS, x + 1, depth);
                case 70:
                    return say(above, DIGS, x, depth) ^ n;
                default:
                    return say(kind, HEARS, x, depth) - say(above, TELLS, x, depth);
            }
        }
    }

    /** A row of numbers of so many bits; of none, if it is missing. */
    private static final class Sheet {
        final int[] numbers = new int[SHEET_ROOM];
        int bits;
        int size;

        void begin(int width, int n) {
            bits = width;
            size = n;
            Arrays.fill(numbers, 0);
        }

        void write(int i, int v) {
            numbers[i] = bits == 32 ? v : v & (1 << bits) - 1;
        }

        boolean holds(int i, int n) {
            return i >= 0 && n >= 0 && n <= size && i <= size - n;
        }
    }
}
