/** The edges that the document names of draws, voices, sheets, images, and what is told: promises 31 to 44. */
public final class RestEdgesTest extends Asking {
    public static void main(String[] args) {
        says("seed: z becomes v: what it was (any number)"); seed();
        says("VOICES, with a number x (ints that go round)"); voicesGoRound();
        says("VOICES: n is the number, m as told"); numberAndM();
        says("knocks(..) is the BODY of its KIND, or of the next KIND above that has one"); nextKindAbove();
        says("super.knocks(..) that from the KIND above the BODY's on"); aboveTheBody();
        says("THE TRACE: the numbers of BODIES of the latest voice(), the first 40"); traceOfLatest();
        says("trace: NONE: there is none such"); noSuchTrace();
        says("SHEETS 0 .. 3, at most 40 numbers, or missing (as at first)"); sheetsAtFirst();
        says("sheet: n numbers, all 0, of so many bits (8, 16, 32)"); allZero();
        says("sheet: (0: it is missing, n doesn't matter)"); missing();
        says("sheet: STATE: n is below 0 (ahead of BEYOND of n)"); belowZero();
        says("put: number i of a SHEET becomes v (its lowest bits)"); lowestBits();
        says("put: BEYOND: no such number"); noSuchNumber();
        says("move: n numbers from number i on come to number j on, as they all were: n"); asTheyWere();
        says("move: n, i, or j is below 0, or they don't stand there"); theyStandThere();
        says("rocks: Numbers of a SHEET become ROCK of CELLS 0, 1, ..: how many"); rocks();
        says("rocks: up to the first that is not 0 to 9"); rocksUpTo();
        says("judge: the first that isn't so; -1: all are"); judge();
        says("judge: one that lacks, or is too many, too"); judgeByLength();
        says("image: in place of one ahead: how often that was done"); images();
        says("image: All (but SHEETS, THE TRACE, what told() tells, and how often this was done)"); notOfTheImage();
        says("restore: All is as the IMAGE has it"); restored();
        says("restore: which stays"); imageStays();
        says("restore: NONE: there is none"); noImage();
        says("tell: One more number waits: how many. FULL: 20 wait"); twentyWait();
        says("check: the numbers that wait (none do then) are APART by 1, 2, ..: 0"); check();
        says("check: else 1 and the place (from 0) of the first that isn't so"); checkPlace();
        says("count: 0 .. 10"); counts();
        says("count: z (any number)"); countOfZ();
        says("told: How many acts have answered an ERROR LOW - k (k 1 .. 5)"); told();
        says("told: BEYOND: another k (counted, too)"); toldOfAnother();
        end();
    }

    // ---- draws, voices

    private static void seed() {
        TunnelHearsay x = fresh();
        int before = 1;
        for (int v : new int[] {0, -1, MIN, MAX, LOW, BEYOND, KIND, 1}) {
            due("seed(" + v + ")", x.seed(v), before);
            due("z", x.count(10), v);
            before = v;
        }
        due("no error", x.told(1) + x.told(5), 0);
    }

    private static void voicesGoRound() {
        TunnelHearsay x = fresh();
        x.engineer(9, 0);
        x.engineer(9, 0);
        due("knocks: MAX + 1", x.voice(1, 0, MAX), MIN);
        due("hears: MAX * 2", x.voice(0, 1, MAX), -2);
        due("hears: (MAX + 1) * 2", x.voice(1, 1, MAX), 0);
        due("digs: MIN - 9", x.voice(0, 2, MIN), MAX - 8);
        due("tells: MIN", x.voice(0, 3, MIN), MAX - 8);
        x.become(0, 10);
        due("SURVEYOR knocks: MAX * 3", x.voice(0, 0, MAX), MAX - 2);
        x.become(0, 30);
        due("FOREMAN digs: -MIN", x.voice(0, 2, MIN), MIN);
        x.become(0, 50);
        due("ECHO hears: (MAX + 1) * 2 - (1 - 0)", x.voice(0, 1, MAX), -1);
        due("no error, however low", x.told(1) + x.told(2) + x.told(3) + x.told(4) + x.told(5), 0);
    }

    private static void numberAndM() {
        TunnelHearsay x = fresh();
        for (int i = 0; i < 8; i++) {
            x.engineer(9 - i, 0);
        }
        for (int i = 0; i < 8; i++) {
            due("knocks of " + i, x.voice(i, 0, 100), 100 + i);
            due("digs of " + i, x.voice(i, 2, 100), 100 - (9 - i));
        }
        x.become(7, 60);
        due("CLERK digs, n 7, m 0", x.voice(7, 2, 100), -100 ^ 7);
        due("8 isn't there", x.voice(8, 0, 0), BEYOND);
    }

    private static void speaks(int km, int act, int want, int... bodies) {
        TunnelHearsay x = fresh();
        x.engineer(0, 0);
        x.engineer(km, 0);
        due("voice of " + km + ", " + act, x.voice(1, act, 10), want);
        due("bodies of " + km + ", " + act, x.count(9), bodies.length);
        for (int i = 0; i < bodies.length; i++) {
            due("body " + i + " of " + km + ", " + act, x.trace(i), bodies[i]);
        }
        due("behind the last of " + km + ", " + act, x.trace(bodies.length), NONE);
    }

    /** n 1, m 4, x 10: knocks 11, digs 6. */
    private static void nextKindAbove() {
        speaks(4, 0, 11, 10);
        speaks(14, 0, 33, 20, 10);
        speaks(24, 0, 11, 10);
        speaks(34, 0, 11, 10);
        speaks(44, 0, 33, 20, 10);
        speaks(54, 0, 11, 10);
        speaks(64, 0, 11, 10);
        speaks(4, 2, 6, 12);
        speaks(14, 2, 6, 12);
        speaks(24, 2, 6, 12);
        speaks(34, 2, -6, 40, 12);
        speaks(44, 2, 6, 12);
        speaks(54, 2, 6, 12);
        speaks(64, 2, -6 ^ 1, 70, 40, 12);
        speaks(4, 1, 22, 11, 10);
        speaks(14, 1, 66, 11, 20, 10);
        speaks(34, 1, 22, 11, 10);
        speaks(44, 1, 66, 11, 20, 10);
        speaks(64, 1, 22, 11, 10);
    }

    private static void aboveTheBody() {
        speaks(24, 1, 22 + 3, 30, 11, 10, 12);
        speaks(54, 1, 24 + 3, 60, 30, 11, 10, 12);
        speaks(4, 3, 22 ^ 6, 13, 11, 10, 12);
        speaks(14, 3, 66 ^ 6, 13, 11, 20, 10, 12);
        speaks(24, 3, 25 ^ 6, 13, 30, 11, 10, 12, 12);
        speaks(34, 3, 22 ^ -6, 13, 11, 10, 40, 12);
        speaks(44, 3, (66 ^ 6) - 9, 50, 13, 11, 20, 10, 12, 20, 10);
        speaks(54, 3, 27 ^ 6, 13, 60, 30, 11, 10, 12, 12);
        speaks(64, 3, 22 - (22 ^ -6 ^ 1), 71, 11, 10, 13, 11, 10, 70, 40, 12);
    }

    private static void traceOfLatest() {
        TunnelHearsay x = fresh();
        due("none at first", x.count(9), 0);
        x.engineer(64, 0);
        x.engineer(4, 0);
        x.voice(0, 3, 0);
        due("nine, the most that any voice has", x.count(9), 9);
        due("the last of them", x.trace(8), 12);
        due("behind it", x.trace(9), NONE);
        x.voice(1, 2, 0);
        due("of the latest alone", x.count(9), 1);
        due("12", x.trace(0), 12);
        due("none of the one ahead", x.trace(1), NONE);
        due("a voice that is refused", x.voice(2, 3, 0), BEYOND);
        due("another", x.voice(0, 4, 0), BEYOND);
        due("leave it as it was", x.trace(0), 12);
        due("and as long", x.count(9), 1);
    }

    private static void noSuchTrace() {
        TunnelHearsay x = fresh();
        for (int i : new int[] {0, -1, 1, 39, 40, MIN, MAX}) {
            due("trace(" + i + ") at first", x.trace(i), NONE);
        }
        x.engineer(0, 0);
        x.voice(0, 3, 0);
        due("trace(0)", x.trace(0), 13);
        due("trace(3)", x.trace(3), 12);
        for (int i : new int[] {-1, 4, 39, 40, MIN, MAX}) {
            due("trace(" + i + ")", x.trace(i), NONE);
        }
        due("all are NONE, none BEYOND", x.told(1), 0);
        due("13 of them", x.told(2), 13);
    }

    // ---- sheets

    private static void sheetsAtFirst() {
        TunnelHearsay x = fresh();
        x.engineer(0, 0);
        for (int sheet = 0; sheet < 4; sheet++) {
            due("put", x.put(sheet, 0, 0), NONE);
            due("rocks", x.rocks(sheet), NONE);
            due("judge", x.judge(sheet), NONE);
            due("move", x.move(sheet, 0, sheet, 0, 0), NONE);
            due("heard", x.heard(sheet, 0, 0), NONE);
            due("which", x.which(sheet, 0), NONE);
        }
        for (int sheet = 0; sheet < 4; sheet++) {
            due("40 numbers", x.sheet(sheet, 8 << sheet % 3, 40), 1);
            due("number 39", x.put(sheet, 39, sheet), 1);
            due("number 40", x.put(sheet, 40, 0), BEYOND);
            due("41 numbers", x.sheet(sheet, 8, 41), BEYOND);
            due("40 as they were", x.rocks(sheet), 40);
            due("number 39 as it was", x.ofCell(39, 0), sheet);
        }
        due("sheet 4", x.sheet(4, 8, 0), BEYOND);
        due("sheet -1", x.sheet(-1, 8, 0), BEYOND);
    }

    private static void allZero() {
        TunnelHearsay x = fresh();
        for (int bits : new int[] {8, 16, 32}) {
            write(x, 0, bits, 7, 7, 7);
            due("anew, of " + bits, x.sheet(0, bits, 3), 1);
            hillIs(x, 0, 3, 0, 0, 0);
        }
        write(x, 0, 8, 5, 5, 5);
        x.sheet(0, 8, 1);
        x.sheet(0, 8, 3);
        hillIs(x, 0, 3, 0, 0, 0);
        for (int bits : new int[] {MIN, -8, -1, 1, 7, 9, 15, 17, 31, 33, 64, MAX}) {
            due(bits + " bits", x.sheet(0, bits, 1), BEYOND);
        }
        due("3 still", x.rocks(0), 3);
        due("none at all", x.sheet(0, 16, 0), 1);
        due("it is there", x.rocks(0), 0);
        due("but has no number 0", x.put(0, 0, 0), BEYOND);
    }

    /** A sheet becomes rock of the first cells, which show it. */
    private static void hillIs(TunnelHearsay x, int sheet, int many, int... rocks) {
        due("rocks(" + sheet + ")", x.rocks(sheet), many);
        for (int i = 0; i < rocks.length; i++) {
            due("number " + i, x.ofCell(i, 0), rocks[i]);
        }
    }

    private static void missing() {
        TunnelHearsay x = fresh();
        for (int n : new int[] {0, 1, 40, 41, -1, MIN, MAX}) {
            x.sheet(2, 8, 1);
            due("sheet(2, 0, " + n + ")", x.sheet(2, 0, n), 1);
            due("missing", x.put(2, 0, 0), NONE);
            due("missing already", x.sheet(2, 0, n), 1);
        }
        due("no such sheet", x.sheet(4, 0, 0), BEYOND);
        due("no such sheet, -1", x.sheet(-1, 0, 0), BEYOND);
        due("no error of n", x.told(3), 0);
    }

    private static void belowZero() {
        TunnelHearsay x = fresh();
        write(x, 0, 8, 6);
        due("-1", x.sheet(0, 8, -1), STATE);
        due("MIN", x.sheet(0, 32, MIN), STATE);
        due("41", x.sheet(0, 8, 41), BEYOND);
        due("MAX", x.sheet(0, 8, MAX), BEYOND);
        due("of 7 bits", x.sheet(0, 7, -1), BEYOND);
        due("of sheet 4", x.sheet(4, 8, -1), BEYOND);
        hillIs(x, 0, 1, 6);
    }

    private static void lowestBits() {
        TunnelHearsay x = fresh();
        x.sheet(0, 8, 1);
        x.sheet(1, 16, 1);
        x.sheet(2, 32, 1);
        int[] wide = {256 + 3, 65536 + 4, -256 + 5, -65536 + 6, MIN + 7, 8};
        int[][] narrow = {{3, 4, 5, 6, 7, 8}, {-1, 4, -1, 6, 7, 8}, {-1, -1, -1, -1, -1, 8}};
        for (int sheet = 0; sheet < 3; sheet++) {
            for (int i = 0; i < wide.length; i++) {
                x.rock(0, 9);
                due("put(" + sheet + ", 0, " + wide[i] + ")", x.put(sheet, 0, wide[i]), 1);
                hillIs(x, sheet, narrow[sheet][i] < 0 ? 0 : 1, narrow[sheet][i] < 0 ? 9 : narrow[sheet][i]);
            }
        }
        x.put(0, 0, 255);
        due("255 of 8 bits isn't 0 to 9", x.rocks(0), 0);
        x.put(1, 0, 65535);
        due("65535 of 16 bits isn't", x.rocks(1), 0);
        x.put(0, 0, 128);
        due("128 of 8 bits isn't", x.rocks(0), 0);
    }

    private static void noSuchNumber() {
        TunnelHearsay x = fresh();
        write(x, 0, 8, 1, 2);
        for (int i : new int[] {-1, 2, 39, 40, MIN, MAX}) {
            due("put(0, " + i + ", 7)", x.put(0, i, 7), BEYOND);
        }
        due("put(0, 1, 7)", x.put(0, 1, 7), 1);
        due("put(0, 0, 6)", x.put(0, 0, 6), 1);
        hillIs(x, 0, 2, 6, 7, 2);
        due("no such sheet, no such number", x.put(4, 9, 0), BEYOND);
        due("missing, no such number", x.put(1, 9, 0), NONE);
    }

    private static void asTheyWere() {
        TunnelHearsay x = fresh();
        write(x, 0, 8, 1, 2, 3, 4, 5, 6);
        due("up", x.move(0, 0, 0, 1, 5), 5);
        hillIs(x, 0, 6, 1, 1, 2, 3, 4, 5);
        due("down", x.move(0, 1, 0, 0, 5), 5);
        hillIs(x, 0, 6, 1, 2, 3, 4, 5, 5);
        due("onto itself", x.move(0, 2, 0, 2, 4), 4);
        hillIs(x, 0, 6, 1, 2, 3, 4, 5, 5);
        write(x, 1, 8, 7, 8, 9);
        due("to another one", x.move(0, 3, 1, 0, 3), 3);
        hillIs(x, 1, 3, 4, 5, 5);
        hillIs(x, 0, 6, 1, 2, 3, 4, 5, 5);
        due("one", x.move(0, 0, 1, 2, 1), 1);
        hillIs(x, 1, 3, 4, 5, 1);
        x.sheet(2, 32, 40);
        x.sheet(3, 32, 40);
        x.put(2, 0, MIN);
        x.put(2, 39, 3);
        due("all 40", x.move(2, 0, 3, 0, 40), 40);
        x.put(3, 0, 0);
        due("40 are rock", x.rocks(3), 40);
        due("the last of them", x.ofCell(39, 0), 3);
    }

    private static void theyStandThere() {
        TunnelHearsay x = fresh();
        write(x, 0, 8, 1, 2, 3);
        write(x, 1, 8, 7, 8);
        x.sheet(2, 8, 0);
        due("none", x.move(0, 0, 1, 0, 0), 0);
        due("none, from behind the last to behind the last", x.move(0, 3, 1, 2, 0), 0);
        due("none of none", x.move(2, 0, 2, 0, 0), 0);
        due("none, from farther on", x.move(0, 4, 1, 0, 0), BEYOND);
        due("none, to farther on", x.move(0, 0, 1, 3, 0), BEYOND);
        due("one of none", x.move(2, 0, 0, 0, 1), BEYOND);
        due("one to none", x.move(0, 0, 2, 0, 1), BEYOND);
        due("the last", x.move(0, 2, 0, 2, 1), 1);
        due("from behind the last", x.move(0, 3, 0, 0, 1), BEYOND);
        due("to behind the last", x.move(0, 0, 0, 3, 1), BEYOND);
        due("one too many of this", x.move(1, 0, 0, 0, 3), BEYOND);
        due("one too many for that", x.move(0, 0, 1, 0, 3), BEYOND);
        due("n -1", x.move(0, 1, 1, 1, -1), BEYOND);
        due("i -1", x.move(0, -1, 1, 0, 1), BEYOND);
        due("j -1", x.move(0, 0, 1, -1, 1), BEYOND);
        due("i and n go round", x.move(0, MAX, 1, 0, MAX), BEYOND);
        due("j and n go round", x.move(0, 0, 1, MAX, 2), BEYOND);
        due("i, n below 0", x.move(0, MIN, 1, 0, MIN), BEYOND);
        hillIs(x, 0, 3, 1, 2, 3);
        hillIs(x, 1, 2, 7, 8);
    }

    private static void rocks() {
        TunnelHearsay x = fresh();
        x.sheet(0, 8, 0);
        due("none", x.rocks(0), 0);
        due("nothing is otherwise", x.count(5), 276);
        write(x, 0, 16, 9);
        due("one", x.rocks(0), 1);
        due("cell 0", x.ofCell(0, 0), 9);
        due("cell 1 as it was", x.ofCell(1, 0), 1);
        x.sheet(0, 32, 40);
        due("40", x.rocks(0), 40);
        due("cell 39", x.ofCell(39, 0), 0);
        due("cell 41 as it was", x.ofCell(41, 0), 1);
        due("the rest as it was", x.count(5), 45 + 45 + 0 + 1 + 2 + 3);
        due("what is dug stays so", x.ofCell(24, 1), 1);
        due("no sheet 4", x.rocks(4), BEYOND);
        due("no sheet -1", x.rocks(-1), BEYOND);
    }

    private static void rocksUpTo() {
        TunnelHearsay x = fresh();
        write(x, 0, 32, 0, 9, 10, 5);
        due("10 isn't", x.rocks(0), 2);
        due("cell 0", x.ofCell(0, 0), 0);
        due("cell 1", x.ofCell(1, 0), 9);
        due("cell 2 as it was", x.ofCell(2, 0), 2);
        due("cell 3 as it was", x.ofCell(3, 0), 3);
        write(x, 0, 32, 8, -1, 8);
        due("-1 isn't", x.rocks(0), 1);
        due("cell 0 then", x.ofCell(0, 0), 8);
        due("cell 1 stays", x.ofCell(1, 0), 9);
        write(x, 0, 32, MAX);
        due("the first isn't", x.rocks(0), 0);
        x.sheet(0, 8, 40);
        x.put(0, 39, 10);
        due("the last isn't", x.rocks(0), 39);
        due("cell 39 as it was", x.ofCell(39, 0), 9);
        due("no error", x.told(1) + x.told(2) + x.told(3) + x.told(4) + x.told(5), 0);
    }

    private static void judge() {
        TunnelHearsay x = fresh();
        for (int i = 0; i < 8; i++) {
            x.engineer(0, i % 2);
        }
        write(x, 0, 8, 0, 1, 0, 1, 0, 1, 0, 1);
        due("all are", x.judge(0), -1);
        for (int i = 0; i < 8; i++) {
            x.put(0, i, 1 - i % 2);
            due(i + " isn't", x.judge(0), i);
            x.put(0, i, i % 2);
        }
        x.put(0, 7, 0);
        x.put(0, 2, 1);
        due("the first of two", x.judge(0), 2);
        x.put(0, 2, 256);
        due("its lowest bits are", x.judge(0), 7);
        x.put(0, 2, 2);
        due("2 is no side", x.judge(0), 2);
        due("no sheet 4", x.judge(4), BEYOND);
        due("no sheet -1", x.judge(-1), BEYOND);
        due("missing", x.judge(1), NONE);
    }

    private static void judgeByLength() {
        TunnelHearsay x = fresh();
        x.sheet(0, 8, 0);
        due("none of none", x.judge(0), -1);
        x.sheet(0, 8, 1);
        due("one too many", x.judge(0), 0);
        x.engineer(0, 0);
        due("one of one", x.judge(0), -1);
        x.sheet(0, 8, 0);
        due("one lacks", x.judge(0), 0);
        x.sheet(0, 8, 40);
        due("39 too many", x.judge(0), 1);
        x.put(0, 0, 1);
        due("the first isn't so, ahead of what is too many", x.judge(0), 0);
        for (int i = 1; i < 8; i++) {
            x.engineer(0, 0);
        }
        x.sheet(0, 8, 7);
        due("the last lacks", x.judge(0), 7);
        x.put(0, 6, 1);
        due("one isn't so, ahead of what lacks", x.judge(0), 6);
        x.sheet(0, 8, 9);
        due("a ninth", x.judge(0), 8);
    }

    // ---- images

    private static void images() {
        TunnelHearsay x = fresh();
        for (int i = 1; i <= 3; i++) {
            x.delay(i);
            due("image " + i, x.image(), i);
        }
        x.delay(9);
        x.restore();
        due("the latest", x.count(2), 3);
        due("a fourth", x.image(), 4);
    }

    private static void notOfTheImage() {
        TunnelHearsay x = fresh();
        x.engineer(0, 0);
        write(x, 0, 8, 5);
        x.voice(0, 3, 0);
        x.rock(64, 0);
        x.image();
        write(x, 0, 16, 7, 8);
        x.sheet(1, 8, 1);
        x.voice(0, 0, 0);
        x.rock(64, 0);
        x.image();
        x.restore();
        due("sheet 0", x.rocks(0), 2);
        due("sheet 1", x.rocks(1), 1);
        due("the trace", x.count(9), 1);
        due("what is told", x.told(1), 2);
        due("how often", x.image(), 3);
    }

    private static void restored() {
        TunnelHearsay x = soft();
        x.engineer(13, 0);
        x.years(3);
        give(x, 0, "e+2");
        x.feed('y', 1);
        x.tell(3);
        x.seed(-7);
        x.image();
        pass(x, 60);
        x.engineer(0, 1);
        x.become(0, 69);
        x.change(0, 1);
        x.text(1);
        give(x, 0, "9");
        give(x, 1, "9");
        due("other texts", x.law(0, 0, 0, 0) + x.law(1, 0, 0, 0), 18);
        x.check();
        x.seed(1);
        x.delay(9);
        headsAt(x, 63, 62);
        x.head(0, 1, 1);
        x.head(0, 2, 1);
        x.rock(50, 9);
        x.dig(50, 1);
        due("the year", x.restore(), 3);
        int[] counts = {1, 3, 2, 4, 5, 0, 0, 1, 1, 0, -7};
        for (int what = 0; what < counts.length; what++) {
            due("count(" + what + ")", x.count(what), counts[what]);
        }
        int[] head = {27, 5, 0, 1, 1, 31};
        for (int what = 0; what < head.length; what++) {
            due("ofHead(0, " + what + ")", x.ofHead(0, what), head[what]);
        }
        int[] ago = {27, 26, 25, 24, 24, 24, 24, 24, 24, 24};
        for (int delay = 0; delay <= 9; delay++) {
            x.delay(delay);
            due("where it was " + delay + " years ago", x.ofHead(1, 5), ago[delay]);
        }
        due("kind", x.ofEngineer(0, 0), 1);
        due("m", x.ofEngineer(0, 1), 3);
        due("side", x.ofEngineer(0, 2), 0);
        due("the one text", x.law(0, 3, 0, 0), 5);
        due("the other", x.law(1, 3, 0, 0), 3);
        due("the number that waits is", x.check(), 0);
        due("the tape is y", x.text(0), 1);
        due("y", x.law(0, 3, 0, 8), 8);
    }

    private static void imageStays() {
        TunnelHearsay x = fresh();
        x.rock(0, 5);
        x.image();
        for (int i = 0; i < 3; i++) {
            x.rock(0, 9);
            x.years(1);
            x.tell(1);
            x.feed(0L, 8);
            due("year 0 again", x.restore(), 0);
            due("rock 5 again", x.ofCell(0, 0), 5);
            due("none wait", x.count(8), 0);
            due("an empty tape", x.count(7), 0);
        }
        due("again at once", x.restore(), 0);
        pass(x, 9999);
        x.image();
        due("the last year", x.restore(), 9999);
    }

    private static void noImage() {
        TunnelHearsay x = fresh();
        x.years(2);
        due("none", x.restore(), NONE);
        due("the year stays", x.count(1), 2);
        due("that is no image, either", x.restore(), NONE);
        due("told", x.told(2), 2);
        due("the first", x.image(), 1);
        due("there is one", x.restore(), 2);
    }

    // ---- what is told

    private static void twentyWait() {
        TunnelHearsay x = fresh();
        due("none", x.count(8), 0);
        int[] told = {MIN, -1, 0, MAX, LOW, BEYOND};
        for (int i = 1; i <= 20; i++) {
            due("tell " + i, x.tell(told[i % told.length]), i);
        }
        due("a twenty-first", x.tell(7), FULL);
        due("20", x.count(8), 20);
        due("a twenty-second", x.tell(7), FULL);
        due("told", x.told(4), 2);
        x.check();
        due("none any more", x.count(8), 0);
        due("from anew", x.tell(7), 1);
    }

    private static void check() {
        TunnelHearsay x = soft();
        due("none wait", x.check(), 0);
        x.engineer(0, 0);
        x.tell(6);
        due("one is", x.check(), 0);
        due("none do then", x.count(8), 0);
        for (int i = 1; i <= 20; i++) {
            x.tell(Math.max(0, 7 - i));
        }
        due("twenty are", x.check(), 0);
        due("none do behind that", x.count(8), 0);
        due("and none are checked", x.check(), 0);
        due("only thought", x.count(1), 0);
        x.tell(7);
        due("APART by 0 isn't asked", x.check(), 1);
    }

    private static void checkPlace() {
        TunnelHearsay x = soft();
        x.engineer(0, 0);
        for (int bad : new int[] {1, 2, 10, 19, 20}) {
            for (int i = 1; i <= 20; i++) {
                x.tell(i == bad ? 15 : Math.max(0, 7 - i));
            }
            due("number " + bad + " isn't", x.check(), bad);
            due("none do then", x.count(8), 0);
        }
        x.tell(6);
        x.tell(-5);
        x.tell(-4);
        due("the first of two", x.check(), 2);
        x.tell(6 + 256);
        due("all of a number is looked at", x.check(), 1);
    }

    private static void counts() {
        TunnelHearsay x = fresh();
        int[] first = {0, 0, 2, 7, 2, 276, 0, 0, 0, 0, 1};
        for (int what = 0; what <= 10; what++) {
            due("count(" + what + ") at first", x.count(what), first[what]);
        }
        for (int what : new int[] {-1, 11, MIN, MAX}) {
            due("count(" + what + ")", x.count(what), BEYOND);
        }
        TunnelHearsay y = hard();
        for (int i = 0; i < 8; i++) {
            y.engineer(60, 1);
        }
        for (int cell = 0; cell < 64; cell++) {
            y.dig(cell, 1);
        }
        for (int i = 0; i < 50; i++) {
            y.feed(0L, 1);
        }
        for (int i = 0; i < 20; i++) {
            y.tell(0);
        }
        headsAt(y, 0, 63);
        y.delay(9);
        y.voice(0, 3, 0);
        y.seed(MAX);
        int[] most = {8, 0, 9, 14, 64, 576, 8, 50, 20, 9, MAX};
        for (int what = 0; what <= 10; what++) {
            due("count(" + what + ") at most", y.count(what), most[what]);
        }
    }

    private static void countOfZ() {
        TunnelHearsay x = fresh();
        for (int v : new int[] {LOW, BEYOND, NONE, STATE, FULL, KIND, MIN, MAX, 0}) {
            x.seed(v);
            due("z " + v, x.count(10), v);
        }
        due("no error", x.told(1) + x.told(2) + x.told(3) + x.told(4) + x.told(5), 0);
    }

    private static void told() {
        TunnelHearsay x = fresh();
        for (int k = 1; k <= 5; k++) {
            due("told(" + k + ") at first", x.told(k), 0);
        }
        x.engineer(0, 0);
        x.as(0, 6);
        for (int i = 0; i < 21; i++) {
            x.tell(0);
        }
        x.dig(24, 0);
        x.restore();
        x.count(11);
        for (int k = 1; k <= 5; k++) {
            due("told(" + k + ")", x.told(k), 1);
        }
        for (int i = 0; i < 300; i++) {
            x.restore();
        }
        due("many", x.told(2), 301);
        due("of that alone", x.told(1) + x.told(3) + x.told(4) + x.told(5), 4);
    }

    private static void toldOfAnother() {
        TunnelHearsay x = fresh();
        int many = 0;
        for (int k : new int[] {0, 6, -1, MIN, MAX, BEYOND}) {
            due("told(" + k + ")", x.told(k), BEYOND);
            many++;
            due("counted, too", x.told(1), many);
        }
        due("1 is the least", x.told(1), many);
        due("5 is the greatest", x.told(5), 0);
    }
}
