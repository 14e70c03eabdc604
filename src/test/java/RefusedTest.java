import java.util.ArrayList;
import java.util.List;

/**
 * Each call that is refused: what it answers, that it changes nothing but what told() tells, and the order of
 * ERRORS; and of each number that a call takes the smallest and the largest, and the next one beyond on each side.
 *
 * Nothing changes: two objects are made alike, one of them refuses a call; all that can be asked of both then
 * must be alike. As an object is used for 512 calls alone, each of several views is taken of a new pair.
 */
public final class RefusedTest extends Asking {
    private static final int VIEWS = 4;

    private interface State {
        void make(TunnelHearsay x);
    }

    public static void main(String[] args) {
        viewsSee();
        numbersOfTheHill();
        numbersOfEngineers();
        numbersOfTexts();
        numbersOfYears();
        numbersOfWhatWouldBe();
        numbersOfTheRest();
        otherErrors();
        errorsOfSheets();
        errorsInOrder();
        errorsOfSheetsInOrder();
        noErrors();
        askingChangesNothing();
        end();
    }

    // ---- states

    /** Something of all there is: engineers of side 0 and 1, texts, a tape, numbers that wait, sheets, an image. */
    private static void furnish(TunnelHearsay x) {
        x.engineer(3, 0);
        x.engineer(15, 1);
        x.engineer(24, 0);
        x.engineer(37, 1);
        x.engineer(41, 0);
        give(x, 0, "e+d/4");
        give(x, 1, "p-r/3");
        x.seed(77);
        x.years(2);
        x.loose(1);
        x.head(0, 1, 6);
        x.feed('y', 1);
        x.tell(3);
        x.image();
        x.delay(3);
        x.rock(5, 9);
        x.dig(40, 1);
        x.years(1);
        x.head(1, 2, 1);
        feedAll(x, "+1");
        x.tell(x.apart(2));
        write(x, 0, 8, 1, 2, 3);
        write(x, 1, 8, 7, 8, 9, 6);
        write(x, 2, 16, 5);
        x.voice(1, 3, 4);
        x.rock(64, 0);
        x.put(3, 0, 0);
        x.dig(x.ofHead(0, 0), 0);
        x.as(0, 6);
    }

    private static void fullCrew(TunnelHearsay x) {
        furnish(x);
        for (int i = x.count(0); i < 8; i++) {
            x.engineer(60 + i, i % 2);
        }
    }

    private static void fullTape(TunnelHearsay x) {
        furnish(x);
        feedAll(x, "+e+d+y+1+e+d+y+1+e+d+y+1+e+d+y+1+e+d+y+1+e+d+(1");
    }

    private static void fullWait(TunnelHearsay x) {
        furnish(x);
        for (int i = x.count(8); i < 20; i++) {
            x.tell(x.apart(i + 1));
        }
    }

    private static void lastYears(TunnelHearsay x) {
        furnish(x);
        pass(x, 9999 - 20 - x.count(1));
    }

    private static void nothing(TunnelHearsay x) {
        // A new object is as it is.
    }

    // ---- views

    private static void add(List<Long> seen, TunnelHearsay x, String name, Object... with) {
        seen.add(new Call(name, with).ask(x));
    }

    private static List<Long> view(int which, TunnelHearsay x) {
        List<Long> seen = new ArrayList<>();
        for (int k = 1; k <= 5; k++) {
            add(seen, x, "told", k);
        }
        switch (which) {
            case 0: viewHill(seen, x); break;
            case 1: viewCrew(seen, x); break;
            case 2: viewSheets(seen, x); break;
            default: viewImage(seen, x); break;
        }
        return seen;
    }

    private static void viewHill(List<Long> seen, TunnelHearsay x) {
        for (int what = 0; what <= 10; what++) {
            add(seen, x, "count", what);
        }
        for (int cell = 0; cell < 64; cell++) {
            add(seen, x, "ofCell", cell, 0);
            add(seen, x, "ofCell", cell, 1);
        }
        for (int what = 0; what <= 5; what++) {
            add(seen, x, "ofHead", 0, what);
            add(seen, x, "ofHead", 1, what);
        }
        for (int delay = 0; delay <= 9; delay++) {
            add(seen, x, "delay", delay);
            add(seen, x, "ofHead", 0, 5);
            add(seen, x, "ofHead", 1, 5);
        }
    }

    private static void viewCrew(List<Long> seen, TunnelHearsay x) {
        int many = x.count(0);
        for (int i = 0; i < many; i++) {
            for (int what = 0; what <= 4; what++) {
                add(seen, x, "ofEngineer", i, what);
            }
        }
        for (int a = 0; a < 10; a++) {
            add(seen, x, "law", 0, a, 9 - a, a / 2);
            add(seen, x, "law", 1, 20 - a, a, 3);
            add(seen, x, "trace", a);
        }
        for (int i = 0; i < 15; i++) {
            add(seen, x, "years", 1);
            add(seen, x, "ofHead", i % 2, 0);
        }
    }

    private static void viewSheets(List<Long> seen, TunnelHearsay x) {
        add(seen, x, "count", 7);
        add(seen, x, "count", 8);
        add(seen, x, "check");
        add(seen, x, "text", 0);
        for (int a = 0; a < 5; a++) {
            add(seen, x, "law", 0, a, 7 * a, 9 - a);
        }
        for (int sheet = 0; sheet < 4; sheet++) {
            add(seen, x, "rocks", sheet);
            add(seen, x, "judge", sheet);
            for (int cell = 0; cell < 6; cell++) {
                add(seen, x, "ofCell", cell, 0);
                add(seen, x, "move", sheet, 0, sheet, 0, cell);
            }
            for (int other = 0; other < 4; other++) {
                add(seen, x, "move", sheet, 0, other, 0, 0);
            }
            add(seen, x, "put", sheet, 0, 65536 + 256 + 4);
            add(seen, x, "rocks", sheet);
        }
    }

    private static void viewImage(List<Long> seen, TunnelHearsay x) {
        add(seen, x, "restore");
        viewHill(seen, x);
        add(seen, x, "check");
        add(seen, x, "text", 0);
        for (int i = 0; i < 8; i++) {
            add(seen, x, "ofEngineer", i, 0);
            add(seen, x, "law", 0, i, 9 - i, i / 2);
            add(seen, x, "law", 1, 20 - i, i, 3);
        }
        add(seen, x, "image");
    }

    /** The views themselves: what each of these acts changes is seen by one of them. */
    private static void viewsSee() {
        says("one that answers an ERROR changes nothing: the views that show it");
        Call[] acts = {
            new Call("rock", 63, 8), new Call("dig", 63, 1), new Call("dig", 40, 0), new Call("head", 0, 0, 24),
            new Call("head", 0, 1, 7), new Call("head", 1, 2, 2), new Call("delay", 4), new Call("engineer", 0, 0),
            new Call("change", 4, 1), new Call("become", 4, 42), new Call("become", 4, 11), new Call("feed", 65L, 1),
            new Call("text", 0), new Call("text", 1), new Call("years", 1), new Call("loose", 1), new Call("seed", 78),
            new Call("voice", 0, 0, 0), new Call("sheet", 0, 8, 3), new Call("sheet", 0, 0, 0), new Call("sheet", 3, 8, 0),
            new Call("put", 1, 3, 5), new Call("move", 1, 0, 0, 0, 1), new Call("rocks", 1), new Call("image"),
            new Call("restore"), new Call("tell", 0), new Call("check"), new Call("rock", 64, 0), new Call("put", 3, 0, 0),
        };
        for (Call act : acts) {
            due(act + " is seen", changes(RefusedTest::furnish, act) ? 1 : 0, 1);
        }
        due("ofHead is not", changes(RefusedTest::furnish, new Call("ofHead", 0, 4)) ? 1 : 0, 0);
    }

    private static boolean changes(State state, Call act) {
        boolean seen = false;
        for (int which = 0; which < VIEWS; which++) {
            TunnelHearsay x = fresh();
            TunnelHearsay y = fresh();
            state.make(x);
            state.make(y);
            act.ask(x);
            seen |= !view(which, x).equals(view(which, y));
        }
        return seen;
    }

    // ---- what is refused, what is taken

    private static void refused(int error, State state, String name, Object... with) {
        Call call = new Call(name, with);
        for (int which = 0; which < VIEWS; which++) {
            TunnelHearsay x = fresh();
            TunnelHearsay y = fresh();
            state.make(x);
            state.make(y);
            due(call.toString(), call.ask(x), error);
            List<Long> got = view(which, x);
            List<Long> want = view(which, y);
            int told = LOW - error - 1;
            want.set(told, want.get(told) + 1);
            due(call + " leaves as it was view " + which + ", place", placeUnlike(got, want), -1);
        }
    }

    private static int placeUnlike(List<Long> got, List<Long> want) {
        for (int i = 0; i < got.size(); i++) {
            if (!got.get(i).equals(want.get(i))) {
                return i;
            }
        }
        return got.size() == want.size() ? -1 : got.size();
    }

    private static void refused(int error, String name, Object... with) {
        refused(error, RefusedTest::furnish, name, with);
    }

    private static void taken(String name, Object... with) {
        TunnelHearsay x = fresh();
        furnish(x);
        int before = x.told(1);
        Call call = new Call(name, with);
        due(call + " is taken, not BEYOND", call.ask(x) == BEYOND ? 1 : 0, 0);
        due(call + " is taken, not counted", x.told(1), before);
    }

    /** The number at a place of a sound call goes from low to high, the rest being as given. */
    private static void from(int place, int low, int high, String name, Object... with) {
        for (int v : new int[] {low, high}) {
            taken(name, put(with, place, v));
        }
        for (int v : new int[] {low - 1, high + 1, MIN, MAX}) {
            refused(BEYOND, name, put(with, place, v));
        }
    }

    private static Object[] put(Object[] row, int place, int v) {
        Object[] copy = row.clone();
        copy[place] = v;
        return copy;
    }

    private static void numbersOfTheHill() {
        says("rock: CELLS 0 .. 63, ROCK 0 to 9");
        from(0, 0, 63, "rock", 5, 5);
        from(1, 0, 9, "rock", 5, 5);
        says("dig: CELLS 0 .. 63, DUG (1), or not (0)");
        from(0, 0, 63, "dig", 5, 1);
        from(1, 0, 1, "dig", 5, 1);
        says("ofCell: CELLS 0 .. 63, what 0, 1, 2");
        from(0, 0, 63, "ofCell", 5, 0);
        from(1, 0, 2, "ofCell", 5, 0);
        says("head: HEADS 0, 1; AT (what 0), POWER (1: 0 to 20), WORK (2: 0 to 99)");
        from(0, 0, 1, "head", 0, 1, 5);
        from(1, 0, 2, "head", 0, 1, 5);
        from(2, 0, 63, "head", 0, 0, 5);
        from(2, 0, 20, "head", 0, 1, 5);
        from(2, 0, 99, "head", 0, 2, 5);
        from(2, 0, 63, "head", 1, 0, 5);
        from(2, 0, 20, "head", 1, 1, 5);
        from(2, 0, 99, "head", 1, 2, 5);
        says("ofHead: HEADS 0, 1; what 0 .. 5");
        from(0, 0, 1, "ofHead", 0, 0);
        from(1, 0, 5, "ofHead", 0, 0);
        says("delay: DELAY 0 to 9");
        from(0, 0, 9, "delay", 2);
    }

    /** Five of them are there. */
    private static void numbersOfEngineers() {
        says("engineer: km 10 times the KIND (0 to 6), and m (0 to 9); SIDE 0, 1");
        from(0, 0, 69, "engineer", 5, 0);
        from(1, 0, 1, "engineer", 5, 0);
        says("ofEngineer: one that is there; what 0 .. 4");
        from(0, 0, 4, "ofEngineer", 0, 0);
        from(1, 0, 4, "ofEngineer", 0, 0);
        says("change: one that is there; SIDE 0, 1");
        from(0, 0, 4, "change", 0, 0);
        from(1, 0, 1, "change", 0, 0);
        says("become: one that is there; km 0 to 69");
        from(0, 0, 4, "become", 0, 0);
        from(1, 0, 69, "become", 0, 0);
        says("as: one that is there; KINDS 0 to 6");
        from(0, 0, 4, "as", 0, 0);
        from(1, 0, 6, "as", 0, 0);
        says("no ENGINEERS at first");
        refused(BEYOND, RefusedTest::nothing, "ofEngineer", 0, 0);
        refused(BEYOND, RefusedTest::nothing, "change", 0, 0);
        refused(BEYOND, RefusedTest::nothing, "become", 0, 0);
        refused(BEYOND, RefusedTest::nothing, "as", 0, 0);
        refused(BEYOND, RefusedTest::nothing, "voice", 0, 0, 0);
        says("eight ENGINEERS: 7 is the last");
        refused(BEYOND, RefusedTest::fullCrew, "ofEngineer", 8, 0);
        refused(BEYOND, RefusedTest::fullCrew, "change", 8, 0);
        refused(BEYOND, RefusedTest::fullCrew, "become", 8, 0);
        refused(BEYOND, RefusedTest::fullCrew, "as", 8, 0);
        refused(BEYOND, RefusedTest::fullCrew, "voice", 8, 0, 0);
        refused(BEYOND, RefusedTest::fullCrew, "which", 0, 8);
    }

    private static void numbersOfTexts() {
        says("feed: the n lowest bytes (1 .. 8)");
        from(1, 1, 8, "feed", 0x6565656565656565L, 1);
        says("text: a USE (0, 1); BEYOND (THE TAPE stays)");
        from(0, 0, 1, "text", 0);
        says("law: a USE (0, 1)");
        from(0, 0, 1, "law", 0, 1, 2, 3);
    }

    private static void numbersOfYears() {
        says("years: n (1 to 60)");
        from(0, 1, 60, "years", 1);
        says("loose: n (1 to 40)");
        from(0, 1, 40, "loose", 1);
    }

    private static void numbersOfWhatWouldBe() {
        says("then: n (0 to 60), HEADS 0, 1, what 0, 1");
        from(0, 0, 60, "then", 1, 0, 0);
        from(1, 0, 1, "then", 1, 0, 0);
        from(2, 0, 1, "then", 1, 0, 0);
        says("apart: n (0 to 60)");
        from(0, 0, 60, "apart", 1);
        says("delayFor: n (0 to 60)");
        from(0, 0, 60, "delayFor", 1);
        says("powerFor: HEADS 0, 1, n (0 to 60), v (0 to 14)");
        from(0, 0, 1, "powerFor", 0, 1, 14);
        from(1, 0, 60, "powerFor", 0, 1, 14);
        from(2, 0, 14, "powerFor", 0, 1, 14);
        says("needless: n (0 to 60)");
        from(0, 0, 60, "needless", 1);
        says("heard: SHEETS 0 .. 3, HEADS 0, 1, what 0, 1");
        from(0, 0, 3, "heard", 0, 0, 0);
        from(1, 0, 1, "heard", 0, 0, 0);
        from(2, 0, 1, "heard", 0, 0, 0);
        says("which: SHEETS 0 .. 3, one of ENGINEERS");
        from(0, 0, 3, "which", 0, 0);
        from(1, 0, 4, "which", 0, 0);
        says("join: CELLS 0 .. 63");
        from(0, 0, 63, "join", 5, 5);
        from(1, 0, 63, "join", 5, 5);
        says("steps: CELLS 0 .. 63");
        from(0, 0, 63, "steps", 24, 24);
        from(1, 0, 63, "steps", 24, 24);
        says("hand: CELLS 0 .. 63, WAYS 0 to 3, n (0 to 200)");
        from(0, 0, 63, "hand", 24, 0, 1);
        from(1, 0, 3, "hand", 24, 0, 1);
        from(2, 0, 200, "hand", 24, 0, 1);
        says("odds: n (0 to 30), v (0 to 14), part 0, 1");
        from(0, 0, 30, "odds", 1, 1, 0);
        from(1, 0, 14, "odds", 1, 1, 0);
        from(2, 0, 1, "odds", 1, 1, 0);
    }

    private static void numbersOfTheRest() {
        says("voice: one of ENGINEERS, 0 knocks to 3 tells");
        from(0, 0, 4, "voice", 0, 0, 0);
        from(1, 0, 3, "voice", 0, 0, 0);
        says("sheet: SHEETS 0 .. 3, of 8, 16, 32 bits (0: missing), at most 40 numbers");
        from(0, 0, 3, "sheet", 0, 8, 1);
        for (int bits : new int[] {0, 8, 16, 32}) {
            taken("sheet", 0, bits, 1);
        }
        for (int bits : new int[] {MIN, -8, -1, 1, 7, 9, 15, 17, 24, 31, 33, 64, MAX}) {
            refused(BEYOND, "sheet", 0, bits, 1);
        }
        taken("sheet", 0, 8, 0);
        taken("sheet", 0, 8, 40);
        refused(BEYOND, "sheet", 0, 8, 41);
        refused(BEYOND, "sheet", 0, 32, MAX);
        says("put: SHEETS 0 .. 3, a number that stands there");
        from(0, 0, 3, "put", 0, 0, 0);
        from(1, 0, 2, "put", 0, 0, 0);
        says("move: SHEETS 0 .. 3, numbers that stand there (3 of the one, 4 of the other)");
        from(0, 0, 3, "move", 0, 0, 0, 0, 0);
        from(2, 0, 3, "move", 0, 0, 0, 0, 0);
        from(1, 0, 2, "move", 0, 0, 1, 0, 1);
        from(3, 0, 3, "move", 0, 0, 1, 0, 1);
        from(4, 0, 3, "move", 0, 0, 1, 1, 1);
        from(4, 0, 3, "move", 1, 1, 0, 0, 1);
        says("rocks: SHEETS 0 .. 3");
        from(0, 0, 3, "rocks", 0);
        says("judge: SHEETS 0 .. 3");
        from(0, 0, 3, "judge", 0);
        says("count: what 0 .. 10");
        from(0, 0, 10, "count", 0);
        says("told: k 1 .. 5; another k is counted, too");
        from(0, 1, 5, "told", 1);
    }

    // ---- the other errors

    private static void otherErrors() {
        says("dig: STATE: a HEAD is AT it (v 0)");
        refused(STATE, RefusedTest::nothing, "dig", 24, 0);
        refused(STATE, RefusedTest::nothing, "dig", 31, 0);
        says("engineer: FULL: at most 8");
        refused(FULL, RefusedTest::fullCrew, "engineer", 0, 0);
        refused(FULL, RefusedTest::fullCrew, "engineer", 69, 1);
        says("as: KIND: it isn't of that KIND, nor of one under it");
        refused(KIND, "as", 0, 1);
        refused(KIND, "as", 1, 4);
        says("feed: FULL: THE TAPE has at most 50 bytes");
        refused(FULL, RefusedTest::fullTape, "feed", 65L, 1);
        refused(FULL, RefusedTest::fullTape, "feed", 65L, 8);
        says("years: STATE: YEAR would be above 9999 (it is 9979)");
        refused(STATE, RefusedTest::lastYears, "years", 21);
        refused(STATE, RefusedTest::lastYears, "years", 60);
        says("loose: STATE: YEAR would be above 9999 (it is 9979)");
        refused(STATE, RefusedTest::lastYears, "loose", 21);
        refused(STATE, RefusedTest::lastYears, "loose", 40);
        says("meets: NONE: not by 60");
        refused(NONE, RefusedTest::nothing, "meets");
        says("powerFor: NONE: with none");
        refused(NONE, RefusedTest::nothing, "powerFor", 0, 60, 6);
        refused(NONE, RefusedTest::nothing, "powerFor", 1, 0, 0);
        says("steps: NONE: there are none");
        refused(NONE, RefusedTest::nothing, "steps", 24, 31);
        refused(NONE, RefusedTest::nothing, "steps", 5, 5);
        says("hand: STATE: the CELL isn't DUG");
        refused(STATE, RefusedTest::nothing, "hand", 25, 0, 0);
        says("trace: NONE: there is none such");
        refused(NONE, RefusedTest::nothing, "trace", 0);
        refused(NONE, "trace", -1);
        refused(NONE, "trace", 40);
        refused(NONE, "trace", MIN);
        refused(NONE, "trace", MAX);
        says("restore: NONE: there is none");
        refused(NONE, RefusedTest::nothing, "restore");
        says("tell: FULL: 20 wait");
        refused(FULL, RefusedTest::fullWait, "tell", 0);
    }

    /** Sheet 3 is missing; 0 and 1 are of 8 bits, 2 of 16. */
    private static void errorsOfSheets() {
        says("heard: NONE: the SHEET is missing; (what 1) there is none");
        refused(NONE, "heard", 3, 0, 0);
        refused(NONE, "heard", 3, 0, 1);
        refused(NONE, "heard", 0, 0, 1);
        says("which: NONE: the SHEET is missing");
        refused(NONE, "which", 3, 0);
        says("sheet: STATE: n is below 0");
        refused(STATE, "sheet", 0, 8, -1);
        refused(STATE, "sheet", 3, 32, MIN);
        says("put: NONE: it is missing");
        refused(NONE, "put", 3, 0, 0);
        says("move: NONE: one is missing");
        refused(NONE, "move", 3, 0, 0, 0, 0);
        refused(NONE, "move", 0, 0, 3, 0, 0);
        refused(NONE, "move", 3, 0, 3, 0, 0);
        says("move: KIND: they are of unlike bits");
        refused(KIND, "move", 0, 0, 2, 0, 1);
        refused(KIND, "move", 2, 0, 0, 0, 0);
        says("move: BEYOND: they don't stand there");
        refused(BEYOND, "move", 0, 1, 1, 0, 3);
        refused(BEYOND, "move", 1, 0, 0, 1, 3);
        refused(BEYOND, "move", 1, 0, 1, 2, 3);
        refused(BEYOND, "move", 0, 4, 1, 0, 0);
        refused(BEYOND, "move", 0, 0, 1, 5, 0);
        refused(BEYOND, "move", 0, MAX, 1, MAX, MAX);
        refused(BEYOND, "move", 0, 1, 1, 0, MAX);
        refused(BEYOND, "move", 0, -1, 1, 0, 0);
        refused(BEYOND, "move", 0, 0, 1, -1, 0);
        refused(BEYOND, "move", 0, 1, 1, 1, -1);
        says("rocks: NONE: it is missing");
        refused(NONE, "rocks", 3);
        says("judge: NONE: it is missing");
        refused(NONE, "judge", 3);
    }

    // ---- the order in which they are asked

    private static void errorsInOrder() {
        says("dig: BEYOND ahead of STATE");
        refused(BEYOND, RefusedTest::nothing, "dig", 24, -1);
        refused(BEYOND, RefusedTest::nothing, "dig", 31, 2);
        says("engineer: BEYOND ahead of FULL");
        refused(BEYOND, RefusedTest::fullCrew, "engineer", 70, 0);
        refused(BEYOND, RefusedTest::fullCrew, "engineer", -1, 0);
        refused(BEYOND, RefusedTest::fullCrew, "engineer", 0, 2);
        refused(BEYOND, RefusedTest::fullCrew, "engineer", 0, -1);
        says("as: BEYOND ahead of KIND");
        refused(BEYOND, "as", 5, 6);
        refused(BEYOND, "as", 0, 7);
        says("feed: BEYOND ahead of FULL");
        refused(BEYOND, RefusedTest::fullTape, "feed", 65L, 0);
        refused(BEYOND, RefusedTest::fullTape, "feed", 65L, 9);
        refused(BEYOND, RefusedTest::fullTape, "feed", 65L, MAX);
        says("years: BEYOND ahead of STATE");
        refused(BEYOND, RefusedTest::lastYears, "years", 61);
        refused(BEYOND, RefusedTest::lastYears, "years", MAX);
        says("loose: BEYOND ahead of STATE");
        refused(BEYOND, RefusedTest::lastYears, "loose", 41);
        refused(BEYOND, RefusedTest::lastYears, "loose", MAX);
        says("powerFor: BEYOND ahead of NONE");
        refused(BEYOND, RefusedTest::nothing, "powerFor", 2, 60, 6);
        refused(BEYOND, RefusedTest::nothing, "powerFor", 0, 61, 6);
        refused(BEYOND, RefusedTest::nothing, "powerFor", 0, 0, -1);
        says("steps: BEYOND ahead of NONE");
        refused(BEYOND, RefusedTest::nothing, "steps", 0, 64);
        refused(BEYOND, RefusedTest::nothing, "steps", -1, 0);
        says("hand: BEYOND ahead of STATE");
        refused(BEYOND, RefusedTest::nothing, "hand", 25, 4, 0);
        refused(BEYOND, RefusedTest::nothing, "hand", 25, 0, 201);
        refused(BEYOND, RefusedTest::nothing, "hand", 25, -1, 0);
        refused(BEYOND, RefusedTest::nothing, "hand", 25, 0, -1);
    }

    private static void errorsOfSheetsInOrder() {
        says("heard: BEYOND ahead of NONE");
        refused(BEYOND, "heard", 3, 2, 0);
        refused(BEYOND, "heard", 3, 0, 2);
        refused(BEYOND, "heard", 3, -1, 0);
        refused(BEYOND, "heard", 3, 0, -1);
        says("which: BEYOND ahead of NONE");
        refused(BEYOND, "which", 3, 5);
        refused(BEYOND, "which", 3, -1);
        says("sheet: BEYOND (of SHEET and bits) ahead of STATE");
        refused(BEYOND, "sheet", 4, 8, -1);
        refused(BEYOND, "sheet", -1, 8, -1);
        refused(BEYOND, "sheet", 0, 7, -1);
        refused(BEYOND, "sheet", -1, 0, -1);
        refused(BEYOND, "sheet", 4, 0, 0);
        says("put: no such SHEET, then missing, then no such number");
        refused(BEYOND, "put", 4, -1, 0);
        refused(NONE, "put", 3, -1, 0);
        refused(NONE, "put", 3, 40, 0);
        says("move: no such SHEET ahead of missing, of either");
        refused(BEYOND, "move", 3, 0, 4, 0, 0);
        refused(BEYOND, "move", 4, 0, 3, 0, 0);
        refused(BEYOND, "move", 2, 0, 4, 0, -1);
        says("move: missing ahead of unlike bits and of numbers");
        refused(NONE, "move", 3, -1, 2, 0, 0);
        refused(NONE, "move", 2, 0, 3, 0, -1);
        says("move: unlike bits ahead of numbers");
        refused(KIND, "move", 0, -1, 2, 0, 0);
        refused(KIND, "move", 0, 0, 2, 0, 99);
        refused(KIND, "move", 2, 0, 0, -1, -1);
    }

    // ---- what looks like an error, and is none

    private static void noErrors() {
        says("what may be any number is no ERROR and isn't counted");
        TunnelHearsay x = fresh();
        x.engineer(0, 0);
        for (int k = 1; k <= 5; k++) {
            x.seed(LOW - k);
            due("count(10)", x.count(10), LOW - k);
            due("seed", x.seed(0), LOW - k);
            due("voice", x.voice(0, 0, LOW - k), LOW - k);
        }
        says("text: -10 less the FAULT (no ERROR)");
        due("text(0)", x.text(0), -10);
        says("rocks: up to the first that is not 0 to 9 (no ERROR then)");
        write(x, 0, 32, LOW - 1);
        due("rocks(0)", x.rocks(0), 0);
        says("judge: the first that isn't so is no ERROR");
        due("judge(0)", x.judge(0), 0);
        x.put(0, 0, 0);
        due("judge(0), all are", x.judge(0), -1);
        says("told: how many acts have answered an ERROR");
        for (int k = 1; k <= 5; k++) {
            due("told(" + k + ")", x.told(k), 0);
        }
    }

    // ---- what only asks

    private static void askingChangesNothing() {
        says("(All this is only thought); what only asks changes nothing, not even what told() tells");
        Call[] asks = {
            new Call("ofCell", 24, 2), new Call("ofHead", 0, 4), new Call("ofHead", 1, 5), new Call("ofEngineer", 0, 3),
            new Call("ofEngineer", 1, 4), new Call("as", 0, 0), new Call("law", 0, 1, 2, 3), new Call("law", 1, 1, 2, 3),
            new Call("then", 60, 0, 0), new Call("then", 60, 1, 1), new Call("meets"), new Call("apart", 60),
            new Call("delayFor", 60), new Call("powerFor", 0, 60, 14), new Call("powerFor", 1, 60, 14),
            new Call("needless", 60), new Call("heard", 0, 0, 0), new Call("heard", 1, 1, 0), new Call("which", 0, 0),
            new Call("which", 0, 1), new Call("join", 0, 63), new Call("steps", 24, 24), new Call("hand", 24, 1, 200),
            new Call("parts"), new Call("odds", 30, 14, 0), new Call("odds", 30, 0, 1), new Call("trace", 0),
            new Call("judge", 0), new Call("judge", 1), new Call("count", 3), new Call("count", 10), new Call("told", 1),
        };
        for (Call ask : asks) {
            due(ask + " changes", changes(RefusedTest::furnish, ask) ? 1 : 0, 0);
        }
        Call[] asksOfLength = {new Call("heard", 3, 0, 1), new Call("which", 3, 2)};
        for (Call ask : asksOfLength) {
            due(ask + " changes", changes(RefusedTest::longSheet, ask) ? 1 : 0, 0);
        }
    }

    private static void longSheet(TunnelHearsay x) {
        furnish(x);
        x.sheet(3, 8, 40);
        for (int i = 0; i < 40; i++) {
            x.put(3, i, x.then(i + 1, 0, 0));
        }
    }
}
