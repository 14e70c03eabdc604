/**
 * Each promise by itself, with answers worked out by hand from the document: ordinary inputs, the
 * edges that it names, wrong inputs, and that a wrong input changes nothing.
 */
public final class PromisesTest extends Asking {
    public static void main(String[] args) {
        says("promise 1"); newObject();
        says("promise 2"); rock();
        says("promise 3"); dig();
        says("promise 4"); ofCell();
        says("promise 5"); head();
        says("promise 6"); ofHead();
        says("promise 7"); delay();
        says("promise 8"); engineer();
        says("promise 9"); ofEngineer(); points(); ears();
        says("promise 10"); change();
        says("promise 11"); become();
        says("promise 12"); as();
        says("promise 13"); feed();
        says("promise 14"); text();
        says("promise 15"); law();
        says("promise 16"); years(); yearsEnd(); meeting();
        says("promise 17"); loose();
        says("promise 18"); then();
        says("promise 19"); meets();
        says("promise 20"); apart();
        says("promise 21"); delayFor();
        says("promise 22"); powerFor();
        says("promise 23"); needless();
        says("promise 24"); heard();
        says("promise 25"); which();
        says("promise 26"); join();
        says("promise 27"); steps();
        says("promise 28"); hand();
        says("promise 29"); parts();
        says("promise 30"); odds();
        says("promise 31"); seed();
        says("promise 32"); voice();
        says("promise 33"); trace();
        says("promise 34"); sheet();
        says("promise 35"); put();
        says("promise 36"); move();
        says("promise 37"); rocks();
        says("promise 38"); judge();
        says("promise 39"); image();
        says("promise 40"); restore();
        says("promise 41"); tell();
        says("promise 42"); check();
        says("promise 43"); count();
        says("promise 44"); told();
        end();
    }

    // ---- the hill, heads

    private static void newObject() {
        TunnelHearsay x = fresh();
        int[] counts = {0, 0, 2, 7, 2, 276, 0, 0, 0, 0, 1};
        for (int what = 0; what < counts.length; what++) {
            due("count(" + what + ")", x.count(what), counts[what]);
        }
        for (int cell = 0; cell < 64; cell++) {
            due("rock of " + cell, x.ofCell(cell, 0), cell % 10);
            due("dug of " + cell, x.ofCell(cell, 1), cell == 24 || cell == 31 ? 1 : 0);
        }
        int[][] heads = {{24, 5, 0, 4, 4, 31}, {31, 5, 0, 4, 4, 24}};
        for (int head = 0; head < 2; head++) {
            for (int what = 0; what < 6; what++) {
                due("ofHead(" + head + ", " + what + ")", x.ofHead(head, what), heads[head][what]);
            }
        }
        for (int k = 1; k <= 5; k++) {
            due("told(" + k + ")", x.told(k), 0);
        }
        due("no engineer", x.ofEngineer(0, 0), BEYOND);
        due("no image", x.restore(), NONE);
        due("no trace", x.trace(0), NONE);
        for (int sheet = 0; sheet < 4; sheet++) {
            due("no sheet " + sheet, x.put(sheet, 0, 0), NONE);
        }
    }

    private static void rock() {
        TunnelHearsay x = fresh();
        due("rock(0, 9)", x.rock(0, 9), 0);
        due("rock(0, 3)", x.rock(0, 3), 9);
        due("rock(63, 0)", x.rock(63, 0), 3);
        due("rock of a dug cell", x.rock(24, 7), 4);
        due("rock(-1, 0)", x.rock(-1, 0), BEYOND);
        due("rock(64, 0)", x.rock(64, 0), BEYOND);
        due("rock(MAX, 0)", x.rock(MAX, 0), BEYOND);
        due("rock(5, -1)", x.rock(5, -1), BEYOND);
        due("rock(5, 10)", x.rock(5, 10), BEYOND);
        due("rock(5) stays", x.ofCell(5, 0), 5);
        due("rock(0) is 3", x.ofCell(0, 0), 3);
        due("24 stays dug", x.ofCell(24, 1), 1);
    }

    private static void dig() {
        TunnelHearsay x = fresh();
        due("dig(0, 1)", x.dig(0, 1), 0);
        due("dig(0, 1) again", x.dig(0, 1), 1);
        due("dig(0, 0)", x.dig(0, 0), 1);
        due("dig(0, 0) again", x.dig(0, 0), 0);
        due("dig(24, 1)", x.dig(24, 1), 1);
        due("dig(24, 0)", x.dig(24, 0), STATE);
        due("dig(31, 0)", x.dig(31, 0), STATE);
        due("24 stays dug", x.ofCell(24, 1), 1);
        due("dig(24, -1)", x.dig(24, -1), BEYOND);
        due("dig(24, 2)", x.dig(24, 2), BEYOND);
        due("dig(64, 0)", x.dig(64, 0), BEYOND);
        due("dig(-1, 1)", x.dig(-1, 1), BEYOND);
        x.head(0, 0, 10);
        due("dig(24, 0) once the head is gone", x.dig(24, 0), 1);
        due("dig(10, 0)", x.dig(10, 0), STATE);
        due("dig(63, 1)", x.dig(63, 1), 0);
    }

    private static void ofCell() {
        TunnelHearsay x = fresh();
        due("ofCell(59, 0)", x.ofCell(59, 0), 9);
        due("ofCell(24, 1)", x.ofCell(24, 1), 1);
        due("ofCell(25, 1)", x.ofCell(25, 1), 0);
        due("ofCell(24, 2)", x.ofCell(24, 2), 1);
        due("ofCell(31, 2)", x.ofCell(31, 2), 2);
        due("ofCell(25, 2)", x.ofCell(25, 2), 0);
        x.head(0, 0, 31);
        due("both heads", x.ofCell(31, 2), 3);
        due("ofCell(24, 2) then", x.ofCell(24, 2), 0);
        due("ofCell(-1, 0)", x.ofCell(-1, 0), BEYOND);
        due("ofCell(64, 0)", x.ofCell(64, 0), BEYOND);
        due("ofCell(0, -1)", x.ofCell(0, -1), BEYOND);
        due("ofCell(0, 3)", x.ofCell(0, 3), BEYOND);
    }

    private static void head() {
        TunnelHearsay x = fresh();
        due("head(0, 0, 63)", x.head(0, 0, 63), 24);
        due("63 is dug", x.ofCell(63, 1), 1);
        due("24 stays dug", x.ofCell(24, 1), 1);
        due("head(0, 0, 0)", x.head(0, 0, 0), 63);
        due("head(1, 1, 20)", x.head(1, 1, 20), 5);
        due("head(1, 1, 0)", x.head(1, 1, 0), 20);
        due("head(1, 2, 99)", x.head(1, 2, 99), 0);
        due("head(1, 2, 1)", x.head(1, 2, 1), 99);
        due("head 0 has its own work", x.ofHead(0, 2), 0);
        due("head(-1, 0, 0)", x.head(-1, 0, 0), BEYOND);
        due("head(2, 0, 0)", x.head(2, 0, 0), BEYOND);
        due("head(0, -1, 0)", x.head(0, -1, 0), BEYOND);
        due("head(0, 3, 0)", x.head(0, 3, 0), BEYOND);
        due("head(0, 0, 64)", x.head(0, 0, 64), BEYOND);
        due("head(0, 0, -1)", x.head(0, 0, -1), BEYOND);
        due("head(0, 1, 21)", x.head(0, 1, 21), BEYOND);
        due("head(0, 1, -1)", x.head(0, 1, -1), BEYOND);
        due("head(0, 2, 100)", x.head(0, 2, 100), BEYOND);
        due("head(0, 2, -1)", x.head(0, 2, -1), BEYOND);
        due("head 0 stays", x.ofHead(0, 0), 0);

        TunnelHearsay y = soft();
        y.engineer(0, 0);
        y.years(3);
        y.head(0, 2, 8);
        y.head(0, 0, 50);
        for (int delay = 0; delay <= 9; delay++) {
            y.delay(delay);
            due("it was there all years ago, by " + delay, y.ofHead(1, 5), 50);
        }
        due("the way that it went last stays", y.ofHead(0, 3), 1);
        due("its work stays", y.ofHead(0, 2), 8);
    }

    private static void ofHead() {
        TunnelHearsay x = soft();
        x.engineer(0, 0);
        x.years(3);
        due("at", x.ofHead(0, 0), 27);
        due("last", x.ofHead(0, 3), 1);
        due("last of the other one", x.ofHead(1, 3), 4);
        int[] ago = {27, 26, 25, 24, 24, 24, 24, 24, 24, 24};
        for (int delay = 0; delay <= 9; delay++) {
            x.delay(delay);
            due("heard by " + delay, x.ofHead(1, 5), ago[delay]);
            due("the other one never went", x.ofHead(0, 5), 31);
        }
        due("hearkens", x.ofHead(0, 4), 1);
        due("hearkens to nobody", x.ofHead(1, 4), 4);
        due("ofHead(2, 0)", x.ofHead(2, 0), BEYOND);
        due("ofHead(-1, 0)", x.ofHead(-1, 0), BEYOND);
        due("ofHead(0, 6)", x.ofHead(0, 6), BEYOND);
        due("ofHead(0, -1)", x.ofHead(0, -1), BEYOND);
        hearkening();
        farBack();
    }

    private static void hearkening() {
        TunnelHearsay x = still();
        x.head(0, 0, 9);
        x.head(1, 0, 29);
        // By x 4, by y 2 off: an engineer points along x, a surveyor along y.
        x.engineer(0, 0);
        x.engineer(10, 0);
        due("of several the least", x.ofHead(0, 4), 1);
        x.become(1, 13);
        due("the most", x.ofHead(0, 4), 2);
        x.engineer(0, 0);
        due("together", x.ofHead(0, 4), 1);
        x.engineer(39, 1);
        due("of its side alone", x.ofHead(0, 4), 1);
        // FOREMAN with m above the rest of YEAR: the next way behind 3, which is 0.
        due("the other side", x.ofHead(1, 4), 0);
        give(x, 0, "e=2");
        due("by what the text gives", x.ofHead(0, 4), 1);
        give(x, 0, "e>2");
        due("by what the text gives, too", x.ofHead(0, 4), 2);
        give(x, 0, "0");
        due("none, if that is 0", x.ofHead(0, 4), 4);
        x.head(1, 0, 9);
        give(x, 0, "e");
        due("none to point to", x.ofHead(0, 4), 4);
    }

    /** Nine years back is as far as anybody hears; years in which nobody goes count, too. */
    private static void farBack() {
        TunnelHearsay x = soft();
        x.engineer(0, 0);
        x.head(1, 0, 63);
        x.years(12);
        // From 24 to 63: 7 by x, 4 by y; along x while that is no less, and nobody goes in the last year.
        int[] path = {24, 25, 26, 27, 28, 36, 37, 45, 46, 54, 55, 63, 63};
        for (int delay = 0; delay <= 9; delay++) {
            x.delay(delay);
            due("heard by " + delay, x.ofHead(1, 5), path[12 - delay]);
        }
    }

    private static void delay() {
        TunnelHearsay x = fresh();
        due("delay(0)", x.delay(0), 2);
        due("delay(9)", x.delay(9), 0);
        due("delay(10)", x.delay(10), BEYOND);
        due("delay(-1)", x.delay(-1), BEYOND);
        due("count(2)", x.count(2), 9);
    }

    // ---- engineers

    private static void engineer() {
        TunnelHearsay x = fresh();
        due("engineer(70, 0)", x.engineer(70, 0), BEYOND);
        due("engineer(-1, 0)", x.engineer(-1, 0), BEYOND);
        due("engineer(0, 2)", x.engineer(0, 2), BEYOND);
        due("engineer(0, -1)", x.engineer(0, -1), BEYOND);
        due("nobody came", x.count(0), 0);
        for (int i = 0; i < 8; i++) {
            due("engineer " + i, x.engineer(i == 7 ? 69 : 10 * i + i, i % 2), i == 7 ? 7 : i);
        }
        due("a ninth", x.engineer(0, 0), FULL);
        due("a ninth of no kind", x.engineer(70, 0), BEYOND);
        due("a ninth of no side", x.engineer(0, 2), BEYOND);
        due("eight", x.count(0), 8);
        due("kind", x.ofEngineer(5, 0), 5);
        due("m", x.ofEngineer(5, 1), 5);
        due("side", x.ofEngineer(5, 2), 1);
        due("kind of 69", x.ofEngineer(7, 0), 6);
        due("m of 69", x.ofEngineer(7, 1), 9);
    }

    private static void ofEngineer() {
        TunnelHearsay x = fresh();
        x.engineer(47, 1);
        due("kind", x.ofEngineer(0, 0), 4);
        due("m", x.ofEngineer(0, 1), 7);
        due("side", x.ofEngineer(0, 2), 1);
        due("ofEngineer(0, 5)", x.ofEngineer(0, 5), BEYOND);
        due("ofEngineer(0, -1)", x.ofEngineer(0, -1), BEYOND);
        due("ofEngineer(1, 0)", x.ofEngineer(1, 0), BEYOND);
        due("ofEngineer(-1, 0)", x.ofEngineer(-1, 0), BEYOND);
        due("ofEngineer(8, 0)", x.ofEngineer(8, 0), BEYOND);
    }

    private static int pointing(int km, int from, int to, int year) {
        TunnelHearsay x = still();
        x.head(0, 0, from);
        x.head(1, 0, to);
        if (year > 0) {
            x.years(year);
        }
        x.engineer(km, 0);
        return x.ofEngineer(0, 3);
    }

    private static void points() {
        due("ENGINEER to the more", pointing(0, 24, 31, 0), 1);
        due("ENGINEER to the less", pointing(0, 31, 24, 0), 3);
        due("ENGINEER down", pointing(0, 3, 59, 0), 2);
        due("ENGINEER up", pointing(0, 59, 3, 0), 0);
        due("ENGINEER, both alike", pointing(0, 0, 18, 0), 1);
        due("ENGINEER, both alike, to the less", pointing(0, 18, 0, 0), 3);
        due("ENGINEER, more y", pointing(0, 0, 17, 0), 2);
        due("ENGINEER, more y, up, left", pointing(0, 17, 0, 0), 0);
        due("ENGINEER, nothing off", pointing(0, 17, 17, 0), 4);
        due("SURVEYOR down", pointing(10, 0, 15, 0), 2);
        due("SURVEYOR up", pointing(10, 15, 0, 0), 0);
        due("SURVEYOR along x", pointing(10, 15, 8, 0), 3);
        due("SURVEYOR, nothing off", pointing(10, 8, 8, 0), 4);
        due("DREAMER of m 0, year 0", pointing(20, 24, 31, 0), 3);
        due("DREAMER of m 5, year 0", pointing(25, 24, 31, 0), 3);
        due("DREAMER of m 1, year 0", pointing(21, 24, 31, 0), 1);
        due("DREAMER of m 9, year 4", pointing(29, 3, 59, 4), 0);
        due("DREAMER of m 2, year 12", pointing(22, 59, 3, 12), 2);
        due("DREAMER, nothing off", pointing(20, 3, 3, 0), 4);
        due("FOREMAN of m 0, year 0", pointing(30, 24, 31, 0), 1);
        due("FOREMAN of m 1, year 0", pointing(31, 24, 31, 0), 2);
        due("FOREMAN of m 9, year 9", pointing(39, 24, 31, 9), 1);
        due("FOREMAN of m 9, year 18", pointing(39, 24, 31, 18), 2);
        due("FOREMAN, 0 behind 3", pointing(35, 31, 24, 2), 0);
        due("FOREMAN, nothing off", pointing(35, 31, 31, 2), 4);
        due("PLUMB without a last way", pointing(40, 0, 15, 0), 2);
        due("ECHO of m 0, year 0", pointing(50, 24, 31, 0), 1);
        due("ECHO of m 1, year 0", pointing(51, 24, 31, 0), 3);
        due("ECHO, nothing off", pointing(51, 24, 24, 0), 4);
        due("CLERK in an even year", pointing(69, 24, 31, 2), 4);
        due("CLERK of m 9, year 3", pointing(69, 24, 31, 3), 2);
        due("CLERK of m 3, year 3", pointing(63, 24, 31, 3), 1);
        due("CLERK, nothing off", pointing(63, 24, 24, 3), 4);
        plumb();
    }

    private static void plumb() {
        TunnelHearsay x = still();
        digAll(x, 25);
        x.engineer(0, 0);
        x.years(1);
        // It went by 1; the other one is 6 off by x from 25 now.
        x.head(1, 0, 63);
        x.become(0, 49);
        due("PLUMB far off", x.ofEngineer(0, 3), 1);
        x.head(1, 0, 62);
        due("PLUMB 9 off, m 9", x.ofEngineer(0, 3), 2);
        x.become(0, 48);
        due("PLUMB 9 off, m 8", x.ofEngineer(0, 3), 1);
        x.head(1, 0, 25);
        due("PLUMB with nothing off", x.ofEngineer(0, 3), 4);
        x.head(1, 0, 1);
        x.change(0, 1);
        due("PLUMB by the last way of its own head", x.ofEngineer(0, 3), 2);
    }

    private static int hearing(int km, int from, int to, int year) {
        TunnelHearsay x = still();
        x.head(0, 0, from);
        x.head(1, 0, to);
        if (year > 0) {
            x.years(year);
        }
        x.engineer(km, 0);
        return x.ofEngineer(0, 4);
    }

    private static void ears() {
        due("ENGINEER", hearing(9, 24, 31, 0), 2);
        due("SURVEYOR of m 2", hearing(12, 24, 31, 0), 2);
        due("SURVEYOR of m 3", hearing(13, 24, 31, 0), 3);
        due("SURVEYOR of m 9", hearing(19, 24, 31, 0), 5);
        due("DREAMER", hearing(29, 24, 31, 0), 1);
        due("FOREMAN", hearing(39, 24, 31, 0), 4);
        due("PLUMB of m 8, year 2", hearing(48, 24, 31, 2), 5);
        due("PLUMB of m 8, year 3", hearing(48, 24, 31, 3), 4);
        due("PLUMB of m 9, year 3", hearing(49, 24, 31, 3), 5);
        due("PLUMB of m 3, year 4", hearing(43, 24, 31, 4), 4);
        due("ECHO, 7 off, m 6", hearing(56, 24, 31, 0), 1);
        due("ECHO, 7 off, m 7", hearing(57, 24, 31, 0), 0);
        due("CLERK, year 0", hearing(69, 24, 31, 0), 2);
        due("CLERK, year 1", hearing(69, 24, 31, 1), 2);
        TunnelHearsay x = still();
        x.engineer(39, 1);
        give(x, 0, "e*3+d-y");
        due("4 * 3 + 7 - 0", x.ofEngineer(0, 4), 19);
        x.years(7);
        due("4 * 3 + 7 - 7", x.ofEngineer(0, 4), 12);
        x.years(1);
        due("the rest of YEAR by 8", x.ofEngineer(0, 4), 19);
    }

    private static void change() {
        TunnelHearsay x = fresh();
        x.engineer(0, 0);
        due("change(0, 1)", x.change(0, 1), 0);
        due("change(0, 1) again", x.change(0, 1), 1);
        due("it points for the other head", x.ofEngineer(0, 3), 3);
        due("change(0, 2)", x.change(0, 2), BEYOND);
        due("change(0, -1)", x.change(0, -1), BEYOND);
        due("change(1, 0)", x.change(1, 0), BEYOND);
        due("change(-1, 0)", x.change(-1, 0), BEYOND);
        due("side stays", x.ofEngineer(0, 2), 1);
    }

    private static void become() {
        TunnelHearsay x = fresh();
        x.engineer(37, 1);
        due("become(0, 69)", x.become(0, 69), 3);
        due("kind", x.ofEngineer(0, 0), 6);
        due("m", x.ofEngineer(0, 1), 9);
        due("side", x.ofEngineer(0, 2), 1);
        due("become(0, 70)", x.become(0, 70), BEYOND);
        due("become(0, -1)", x.become(0, -1), BEYOND);
        due("become(1, 0)", x.become(1, 0), BEYOND);
        due("become(-1, 0)", x.become(-1, 0), BEYOND);
        due("become(0, 0)", x.become(0, 0), 6);
    }

    private static void as() {
        boolean[][] under = {
            {true, false, false, false, false, false, false},
            {true, true, false, false, false, false, false},
            {true, false, true, false, false, false, false},
            {true, false, false, true, false, false, false},
            {true, true, false, false, true, false, false},
            {true, false, true, false, false, true, false},
            {true, false, false, true, false, false, true},
        };
        TunnelHearsay x = fresh();
        x.engineer(0, 0);
        for (int kind = 0; kind < 7; kind++) {
            x.become(0, 10 * kind + 2 + kind);
            for (int upper = 0; upper < 7; upper++) {
                due("as " + upper + " of " + kind, x.as(0, upper), under[kind][upper] ? 2 + kind : KIND);
            }
        }
        due("as(0, 7)", x.as(0, 7), BEYOND);
        due("as(0, -1)", x.as(0, -1), BEYOND);
        due("as(1, 0)", x.as(1, 0), BEYOND);
        due("as(-1, 0)", x.as(-1, 0), BEYOND);
    }

    // ---- texts

    private static void feed() {
        TunnelHearsay x = fresh();
        due("feed(.., 0)", x.feed(0L, 0), BEYOND);
        due("feed(.., 9)", x.feed(0L, 9), BEYOND);
        due("feed(.., -1)", x.feed(0L, -1), BEYOND);
        due("the lowest first", x.feed(0x39_2B_65L, 3), 3);
        due("e+9 it is", x.text(0), 1);
        due("e+9 of 4", x.law(0, 4, 0, 0), 13);
        due("bytes above n are left", x.feed(0x7A7A7A7A7A7A7A65L, 1), 1);
        due("e it is", x.text(0), 1);
        due("the highest byte, too", x.feed(0x652B652B652B652BL, 8), 8);
        due("it begins with +", x.text(0), -10);
        for (int i = 1; i <= 6; i++) {
            due("eight more", x.feed(0x2B652B652B652B65L, 8), 8 * i);
        }
        due("51 bytes", x.feed(0L, 3), FULL);
        due("56 bytes of no n", x.feed(0L, 9), BEYOND);
        due("50 bytes", x.feed(0x2B65L, 2), 50);
        due("51 bytes one by one", x.feed(0L, 1), FULL);
        due("count(7)", x.count(7), 50);
        due("all + and e, ending in +", x.text(0), -60);
        due("empty then", x.count(7), 0);
        due("a byte above 127", x.feed(0xE5L, 1), 1);
        due("is no name", x.text(0), -10);
    }

    private static void fault(int use, String text, int place) {
        TunnelHearsay x = fresh();
        due(text + " as " + use, give(x, use, text), place < 0 ? 1 : -10 - place);
        due("the tape is empty behind " + text, x.count(7), 0);
    }

    private static void text() {
        fault(0, "", 0);
        fault(0, "e", -1);
        fault(0, "d", -1);
        fault(0, "y", -1);
        fault(1, "p+r*w", -1);
        fault(0, "p", 0);
        fault(0, "e+w", 2);
        fault(1, "e", 0);
        fault(0, "0", -1);
        fault(0, "0000", -1);
        fault(0, "9999", -1);
        fault(0, "12345", 4);
        fault(0, "e2", 1);
        fault(0, "2e", 1);
        fault(0, "e e", 1);
        fault(0, " e", 0);
        fault(0, "e+", 2);
        fault(0, "+e", 0);
        fault(0, "-1", 0);
        fault(0, "e--1", 2);
        fault(0, "e|d&y", -1);
        fault(0, "e||d", 2);
        fault(0, "1<2", -1);
        fault(0, "1<2<3", 3);
        fault(0, "1<2=3", 3);
        fault(0, "1=2>3", 3);
        fault(0, "1<2&1>2|3=3", -1);
        fault(0, "(1<2)<3", -1);
        fault(0, "1<(2<3)", -1);
        fault(0, "(1<2<3)", 4);
        fault(0, "1<=2", 2);
        fault(0, "1+2<3*4", -1);
        fault(0, "()", 1);
        fault(0, "(e", 2);
        fault(0, "(e+", 3);
        fault(0, "e)", 1);
        fault(0, "(e))", 3);
        fault(0, "(e)(d)", 3);
        fault(0, "!e", -1);
        fault(0, "!", 1);
        fault(0, "e!", 1);
        fault(0, "!+e", 1);
        fault(0, "!!!!!e", -1);
        fault(0, "!!!!!!e", 5);
        fault(0, "(((((e)))))", -1);
        fault(0, "((((((e))))))", 5);
        fault(0, "!(!(!e))", -1);
        fault(0, "!(!(!(e)))", 5);
        fault(0, "!(!(!!e))", 5);
        fault(0, "!!!!!e+!!!!!e", -1);
        fault(0, "(((((e)))))*(((((d)))))", -1);
        fault(0, "(!!!!e+!!!!e)", -1);
        fault(0, "(!!!!e+!!!!!e)", 11);
        fault(0, "(!!!!!e)", 5);
        fault(0, "((((!e))))", -1);
        fault(0, "((((!(e)))))", 5);
        fault(0, "((((!e+!d))))", -1);
        fault(0, "e#", 1);
        fault(0, "E", 0);
        fault(0, "1+1+1+1+1+1+1+1+1+1+1+1+1+1+1+1+1+1+1+1+1+1+1+1+", 48);
        fault(0, "1+1+1+1+1+1+1+1+1+1+1+1+1+1+1+1+1+1+1+1+1+1+1+1+1", -1);
        fault(0, "1+1+1+1+1+1+1+1+1+1+1+1+1+1+1+1+1+1+1+1+1+1+1+1+12", -1);

        TunnelHearsay x = fresh();
        give(x, 0, "7");
        due("a fault", give(x, 0, "8+"), -12);
        due("the one ahead stays", x.law(0, 0, 0, 0), 7);
        x.feed('9', 1);
        due("text(2)", x.text(2), BEYOND);
        due("text(-1)", x.text(-1), BEYOND);
        due("the tape stays", x.count(7), 1);
        due("in place of one ahead", x.text(0), 1);
        due("the new one", x.law(0, 0, 0, 0), 9);
        due("the other use has none", x.law(1, 5, 0, 0), 5);
        due("a fault is no error", x.told(1), 2);
    }

    private static void gives(String text, int a, int b, int c, int want) {
        TunnelHearsay x = fresh();
        due("reading " + text, give(x, 0, text), 1);
        due(text + " of " + a + ", " + b + ", " + c, x.law(0, a, b, c), want);
    }

    private static void law() {
        TunnelHearsay x = fresh();
        due("without a text", x.law(0, 11, 3, 4), 11);
        due("without a text, 1", x.law(1, 12, 3, 4), 12);
        due("held, too", x.law(0, 99, 3, 4), 20);
        due("held from below, too", x.law(1, MIN, 3, 4), 0);
        due("law(2, ..)", x.law(2, 0, 0, 0), BEYOND);
        due("law(-1, ..)", x.law(-1, 0, 0, 0), BEYOND);
        give(x, 1, "p*4+r*2+w");
        due("names of use 1, in order", x.law(1, 1, 2, 3), 11);
        due("use 0 has none", x.law(0, 1, 2, 3), 1);

        gives("e*4+d*2+y", 1, 2, 3, 11);
        gives("e", 21, 0, 0, 20);
        gives("e", -1, 0, 0, 0);
        gives("1+2*3", 0, 0, 0, 7);
        gives("(1+2)*3", 0, 0, 0, 9);
        gives("9-3-2", 0, 0, 0, 4);
        gives("16/4/2", 0, 0, 0, 2);
        gives("17%10*2", 0, 0, 0, 14);
        gives("2*9%4", 0, 0, 0, 2);
        gives("e/2+10", -7, 0, 0, 7);
        gives("e%4+10", -7, 0, 0, 7);
        gives("e%d+10", 7, -4, 0, 13);
        gives("7/d+5", 0, 0, 0, 5);
        gives("7%d+5", 0, 0, 0, 5);
        gives("e/d=e", MIN, -1, 0, 1);
        gives("e%d+6", MIN, -1, 0, 6);
        gives("e+1<0", MAX, 0, 0, 1);
        gives("e-1>0", MIN, 0, 0, 1);
        gives("e*2+7", MIN, 0, 0, 7);
        gives("e<d", 1, 2, 0, 1);
        gives("e<d", 2, 2, 0, 0);
        gives("e>d", 3, 2, 0, 1);
        gives("e>d", 2, 2, 0, 0);
        gives("e<d", MIN, MAX, 0, 1);
        gives("e=d", 2, 2, 0, 1);
        gives("e=d", 2, 3, 0, 0);
        gives("e&d", 2, 4, 0, 1);
        gives("e&d", 2, 0, 0, 0);
        gives("e&d", 1, 1, 0, 1);
        gives("e&d", 0, 1, 0, 0);
        gives("e|d", 0, -3, 0, 1);
        gives("e|d", 0, 0, 0, 0);
        gives("!e", -5, 0, 0, 0);
        gives("!e", 0, 0, 0, 1);
        gives("!!e", 9, 0, 0, 1);
        gives("!e+5", 0, 0, 0, 6);
        gives("!e*5", 0, 0, 0, 5);
        gives("!(e+5)", 0, 0, 0, 0);
        gives("1|0&0", 0, 0, 0, 1);
        gives("(1|0)&0", 0, 0, 0, 0);
        gives("0&0|1", 0, 0, 0, 1);
        gives("2&1<0", 0, 0, 0, 0);
        gives("1+1<3", 0, 0, 0, 1);
        gives("3=1+2", 0, 0, 0, 1);
        gives("0|7", 0, 0, 0, 1);
        gives("7&7", 0, 0, 0, 1);
        gives("(e>3)*7+(d<2)*5", 4, 1, 0, 12);
        gives("1|1&1<1+1*(1|1&1<1+1*(1|1&1<1+1*e))", 0, 0, 0, 1);
        gives("0020", 0, 0, 0, 20);
        gives("9999-9990", 0, 0, 0, 9);
    }

    // ---- years

    private static void years() {
        TunnelHearsay x = hard();
        x.engineer(0, 0);
        x.head(0, 1, 4);
        due("a year", x.years(1), 7);
        due("work", x.ofHead(0, 2), 4);
        due("at", x.ofHead(0, 0), 24);
        due("last", x.ofHead(0, 3), 4);
        due("another year", x.years(1), 7);
        due("work then", x.ofHead(0, 2), 8);
        due("12 is 9 or more", x.years(1), 6);
        due("work from anew", x.ofHead(0, 2), 0);
        due("at then", x.ofHead(0, 0), 25);
        due("last then", x.ofHead(0, 3), 1);
        due("dug", x.ofCell(25, 1), 1);
        due("the year", x.count(1), 3);

        x.head(0, 1, 9);
        due("just as much as the rock", x.years(1), 5);
        x.head(0, 2, 6);
        x.dig(27, 1);
        x.head(0, 1, 0);
        due("into what is dug", x.years(1), 4);
        due("no work is left", x.ofHead(0, 2), 0);
        give(x, 1, "p+r-w");
        due("9 by the text", x.years(1), 3);
        x.head(0, 2, 1);
        due("8, and 1 ahead", x.years(1), 2);
        give(x, 1, "8");
        x.head(0, 0, 0);
        x.head(1, 0, 56);
        x.years(1);
        due("8 of 9", x.ofHead(0, 2), 8);
        due("at 0 still", x.ofHead(0, 0), 0);
        due("years(0)", x.years(0), BEYOND);
        due("years(-1)", x.years(-1), BEYOND);
        due("years(61)", x.years(61), BEYOND);
        due("the year stays", x.count(1), 8);
        edges();
    }

    /** No cell that way: nothing, not even work. */
    private static void edges() {
        TunnelHearsay x = hard();
        x.engineer(39, 0);
        x.head(0, 0, 60);
        x.head(1, 0, 63);
        x.years(1);
        due("below the hill is nothing", x.ofHead(0, 0), 60);
        due("and no work", x.ofHead(0, 2), 0);
        due("and no last way", x.ofHead(0, 3), 4);
        due("but the year", x.count(1), 1);
        TunnelHearsay y = soft();
        y.head(0, 1, 0);
        y.engineer(0, 0);
        due("no rock needs no power", y.years(1), 6);
        TunnelHearsay z = soft();
        z.engineer(25, 1);
        z.years(1);
        due("no way past the hill's side", z.ofHead(1, 0), 31);
    }

    private static void yearsEnd() {
        TunnelHearsay x = still();
        for (int i = 0; i < 166; i++) {
            x.years(60);
        }
        due("9960", x.count(1), 9960);
        due("10000", x.years(40), STATE);
        due("61 ahead of that", x.years(61), BEYOND);
        due("loose beyond 9999", x.loose(40), STATE);
        x.image();
        x.seed(1);
        due("loose to 9999", x.loose(39), 7);
        x.restore();
        due("9999", x.years(39), 7);
        due("behind it", x.years(1), STATE);
        due("loose behind it", x.loose(1), STATE);
        due("the year", x.count(1), 9999);
        due("z", x.count(10), 1);
        x.engineer(39, 0);
        x.dig(25, 1);
        // In thought the year 10000 comes, whose rest by 10 is 0: a foreman then points to the next way.
        due("thought goes on", x.then(1, 0, 0), 25);
        x.dig(33, 1);
        due("beyond 9999", x.then(2, 0, 0), 33);
    }

    private static void meeting() {
        TunnelHearsay x = soft();
        x.engineer(0, 0);
        x.engineer(0, 1);
        x.delay(0);
        x.head(0, 0, 27);
        x.head(1, 0, 28);
        due("both go, past one another", x.years(1), 1);
        due("0", x.ofHead(0, 0), 28);
        due("1", x.ofHead(1, 0), 27);
        due("back again", x.years(1), 1);
        x.head(1, 0, 29);
        due("both come to one cell", x.years(1), 0);
        due("28", x.ofHead(0, 0), 28);
        x.delay(9);
        due("they would hear each other elsewhere", x.ofHead(1, 4), 3);
        due("but stay", x.years(5), 0);
        due("28 still", x.ofHead(1, 0), 28);
        due("the years go on", x.count(1), 8);
        due("and what was heard goes by", x.ofHead(1, 5), 27);

        // What 0 digs in a year is dug for 1 in that year.
        TunnelHearsay y = hard();
        y.engineer(0, 0);
        y.engineer(0, 1);
        y.head(0, 0, 27);
        y.head(1, 0, 29);
        y.head(0, 1, 9);
        y.head(1, 1, 0);
        due("1 comes after", y.years(1), 0);
        due("at 28", y.ofHead(1, 0), 28);

        // Both hearken ahead of both going: 1 hears 0 where it was as the year began.
        TunnelHearsay z = soft();
        z.delay(0);
        z.engineer(0, 0);
        z.engineer(0, 1);
        z.head(0, 0, 0);
        z.head(1, 0, 17);
        z.years(1);
        due("0 goes down", z.ofHead(0, 0), 8);
        due("1 goes up, though 0 is beside it by y 1, x 1 then", z.ofHead(1, 0), 9);
    }

    private static void loose() {
        TunnelHearsay x = still();
        due("loose(0)", x.loose(0), BEYOND);
        due("loose(41)", x.loose(41), BEYOND);
        due("loose(-1)", x.loose(-1), BEYOND);
        due("z stays", x.count(10), 1);
        int z = 1;
        int[] rock = new int[64];
        java.util.Arrays.fill(rock, 9);
        for (int i = 0; i < 40; i++) {
            z = z * 1103515245 + 12345;
            int cell = (z >>> 8) % 64;
            z = z * 1103515245 + 12345;
            rock[cell] = (z >>> 8) % 10;
        }
        due("loose(40)", x.loose(40), 7);
        due("z", x.count(10), z);
        due("years", x.count(1), 40);
        for (int cell = 0; cell < 64; cell++) {
            due("rock of " + cell, x.ofCell(cell, 0), rock[cell]);
        }
        // The draw comes ahead of its year: from z 1 the first cell is 62, which gets rock 2.
        TunnelHearsay y = hard();
        y.head(0, 0, 61);
        y.head(1, 0, 63);
        y.engineer(0, 0);
        y.head(0, 1, 2);
        due("dug in the year of the draw", y.loose(1), 1);
        due("62", y.ofCell(62, 0), 2);
    }

    // ---- what would be

    private static void then() {
        TunnelHearsay x = hard();
        x.engineer(0, 0);
        x.head(0, 1, 4);
        int[] at = {24, 24, 24, 25, 25, 25, 26};
        int[] work = {0, 4, 8, 0, 4, 8, 0};
        for (int n = 0; n < at.length; n++) {
            due("at behind " + n, x.then(n, 0, 0), at[n]);
            due("work behind " + n, x.then(n, 0, 1), work[n]);
            due("the other one", x.then(n, 1, 0), 31);
        }
        due("behind 60", x.then(60, 0, 0), 31);
        due("then(61, 0, 0)", x.then(61, 0, 0), BEYOND);
        due("then(-1, 0, 0)", x.then(-1, 0, 0), BEYOND);
        due("then(0, 2, 0)", x.then(0, 2, 0), BEYOND);
        due("then(0, -1, 0)", x.then(0, -1, 0), BEYOND);
        due("then(0, 0, 2)", x.then(0, 0, 2), BEYOND);
        due("then(0, 0, -1)", x.then(0, 0, -1), BEYOND);
        due("only thought: the year", x.count(1), 0);
        due("only thought: what is dug", x.count(4), 2);
        due("only thought: at", x.ofHead(0, 0), 24);
    }

    private static void meets() {
        TunnelHearsay x = soft();
        due("never", x.meets(), NONE);
        x.engineer(0, 0);
        due("7 cells, a year each", x.meets(), 7);
        x.head(0, 0, 31);
        due("now", x.meets(), 0);
        TunnelHearsay y = hard();
        y.engineer(0, 0);
        y.head(0, 1, 1);
        due("6 cells of 9, and one that is dug", y.meets(), 55);
        y.head(1, 0, 39);
        y.dig(31, 0);
        y.rock(31, 5);
        due("by 60", y.meets(), 60);
        y.rock(31, 6);
        due("not by 60", y.meets(), NONE);
        due("only thought", y.count(1), 0);
        due("only thought: dug", y.count(4), 2);
    }

    private static void apart() {
        TunnelHearsay x = soft();
        x.engineer(0, 0);
        for (int n = 0; n <= 60; n++) {
            due("apart(" + n + ")", x.apart(n), Math.max(0, 7 - n));
        }
        due("apart(61)", x.apart(61), BEYOND);
        due("apart(-1)", x.apart(-1), BEYOND);
        due("only thought", x.count(3), 7);
        x.head(0, 0, 0);
        x.head(1, 0, 63);
        due("as far as it goes", x.apart(0), 14);
    }

    private static void delayFor() {
        TunnelHearsay x = soft();
        x.engineer(0, 0);
        x.engineer(0, 1);
        due("of several the least", x.delayFor(0), 0);
        due("delayFor(61)", x.delayFor(61), BEYOND);
        due("delayFor(-1)", x.delayFor(-1), BEYOND);
        int[] gaps = new int[10];
        for (int n = 0; n <= 60; n += 7) {
            int best = 0;
            for (int v = 0; v <= 9; v++) {
                x.delay(v);
                gaps[v] = x.apart(n);
                best = gaps[v] < gaps[best] ? v : best;
            }
            due("delayFor(" + n + ")", x.delayFor(n), best);
        }
        due("delay stays", x.count(2), 9);
        // By hand: 1 was at 0 two years ago and is at 10 now; 0 is at 8. By 0 or 1 it goes by x.
        TunnelHearsay y = soft();
        y.delay(0);
        y.head(0, 0, 10);
        y.head(1, 0, 0);
        y.engineer(0, 1);
        y.years(2);
        y.change(0, 0);
        due("1 is at 2 of", y.ofHead(1, 0), 2);
        y.head(0, 0, 16);
        // 1 was at 0, 1, 2. From 16: by delay 0 (2 off by x, 2 by y) along x; by 1 and 2 along y. All get nearer.
        due("nearer by any", y.delayFor(1), 0);
        y.head(0, 0, 9);
        // From 9: by delay 0 it is 1 by x, 1 by y: x. By 2: -1 by x: away. By 1: y.
        due("nearer by 0", y.delayFor(1), 0);
        y.become(0, 20 + y.count(1) % 5);
        // A dreamer turns round: by 0 away by x, by 1 away by y, by 2 (where it was at 0) to 10, nearer.
        due("nearer by 2 alone", y.delayFor(1), 2);
        // 1 came up to 1 nine years ago and stood at 3 since: a dreamer at 10 is turned to it by 9 alone.
        TunnelHearsay z = soft();
        z.delay(0);
        z.head(0, 0, 3);
        z.head(1, 0, 0);
        z.engineer(0, 1);
        z.years(3);
        z.years(6);
        z.change(0, 0);
        z.become(0, 20 + z.count(1) % 5);
        z.head(0, 0, 1);
        due("nearer by 9 alone", z.delayFor(1), 9);
        TunnelHearsay far = still();
        far.head(0, 0, 0);
        far.head(1, 0, 63);
        due("14 apart by any: the least", far.delayFor(60), 0);
    }

    private static void powerFor() {
        TunnelHearsay x = hard();
        x.engineer(0, 0);
        // In n years a cell is dug by 9 / n, raised.
        due("by 1 year", x.powerFor(0, 1, 6), 9);
        due("by 2", x.powerFor(0, 2, 6), 5);
        due("by 3", x.powerFor(0, 3, 6), 3);
        due("by 9", x.powerFor(0, 9, 6), 1);
        due("by 2, two cells", x.powerFor(0, 2, 5), 9);
        due("7 apart by none", x.powerFor(0, 9, 7), 0);
        due("not by 1", x.powerFor(0, 1, 5), NONE);
        due("the other one needs none", x.powerFor(1, 60, 0), 0);
        x.head(0, 1, 0);
        due("the other one without engineers", x.powerFor(1, 60, 6), NONE);
        due("powerFor(2, 0, 0)", x.powerFor(2, 0, 0), BEYOND);
        due("powerFor(-1, 0, 0)", x.powerFor(-1, 0, 0), BEYOND);
        due("powerFor(0, 61, 0)", x.powerFor(0, 61, 0), BEYOND);
        due("powerFor(0, -1, 0)", x.powerFor(0, -1, 0), BEYOND);
        due("powerFor(0, 0, 15)", x.powerFor(0, 0, 15), BEYOND);
        due("powerFor(0, 0, -1)", x.powerFor(0, 0, -1), BEYOND);
        due("14", x.powerFor(0, 0, 14), 0);
        due("power stays", x.ofHead(0, 1), 0);
        give(x, 1, "(p=20)*9");
        due("20 alone", x.powerFor(0, 1, 6), 20);
    }

    private static void needless() {
        TunnelHearsay x = soft();
        due("nobody", x.needless(5), 0);
        x.engineer(0, 0);
        due("the one is needed", x.needless(5), 0);
        due("by 0 years all are needless", x.needless(0), 1);
        x.engineer(0, 0);
        due("either is", x.needless(5), 3);
        // 2 points the wrong way, and not loudly enough to matter alone.
        x.engineer(20, 0);
        due("one who dreams", x.needless(1), 7);
        x.engineer(0, 1);
        due("one of the other side", x.needless(1), 7);
        due("needless(61)", x.needless(61), BEYOND);
        due("needless(-1)", x.needless(-1), BEYOND);
        due("all stay", x.count(0), 4);
        due("sides stay", x.count(6), 1);
        TunnelHearsay y = soft();
        for (int i = 0; i < 8; i++) {
            y.engineer(0, 0);
        }
        due("eight, each by himself", y.needless(3), 255);
    }

    private static void heard() {
        TunnelHearsay x = hard();
        x.engineer(0, 0);
        x.head(0, 1, 9);
        due("missing", x.heard(0, 0, 0), NONE);
        due("missing, 1", x.heard(0, 0, 1), NONE);
        x.sheet(0, 8, 0);
        due("nothing is told", x.heard(0, 0, 0), 64);
        due("nothing is told: the least", x.heard(0, 0, 1), 0);
        write(x, 0, 8, 25);
        // From 24 (y 3, x 0) along x: |y - 3| no more than x, x above 0.
        int many = 0;
        int least = -1;
        for (int cell = 63; cell >= 0; cell--) {
            if (cell % 8 > 0 && Math.abs(cell / 8 - 3) <= cell % 8) {
                many++;
                least = cell;
            }
        }
        due("along x", x.heard(0, 0, 0), many);
        due("along x: the least", x.heard(0, 0, 1), least);
        write(x, 0, 16, 24, 24);
        due("it stays by its own cell alone", x.heard(0, 0, 0), 1);
        due("which is", x.heard(0, 0, 1), 24);
        write(x, 0, 32, 23);
        due("not to be", x.heard(0, 0, 0), 0);
        due("no least", x.heard(0, 0, 1), NONE);
        write(x, 0, 32, -1);
        due("no cell", x.heard(0, 0, 0), 0);
        write(x, 1, 8, 31, 31, 31);
        due("the other head never goes", x.heard(1, 1, 0), 64);
        due("heard(4, 0, 0)", x.heard(4, 0, 0), BEYOND);
        due("heard(-1, 0, 0)", x.heard(-1, 0, 0), BEYOND);
        due("heard(0, 2, 0)", x.heard(0, 2, 0), BEYOND);
        due("heard(0, -1, 0)", x.heard(0, -1, 0), BEYOND);
        due("heard(0, 0, 2)", x.heard(0, 0, 2), BEYOND);
        due("heard(0, 0, -1)", x.heard(0, 0, -1), BEYOND);
        due("heard(3, 0, 2), missing", x.heard(3, 0, 2), BEYOND);
        x.sheet(3, 8, 0);
        due("the last sheet", x.heard(3, 0, 0), 64);
        due("only thought: at", x.ofHead(1, 0), 31);
        due("only thought: dug", x.count(4), 2);
        // As by head(): the cell is dug then, so that a head without power comes to it.
        x.head(0, 1, 0);
        write(x, 0, 8, 25);
        due("beside it alone", x.heard(0, 0, 0), 1);
        due("25", x.heard(0, 0, 1), 25);
    }

    private static void which() {
        TunnelHearsay x = soft();
        x.engineer(0, 0);
        x.head(0, 0, 0);
        x.head(1, 0, 10);
        // By x 2, by y 1 off, year 0. By kind with m 0: x, y, opposite (none there), x, y, x, none.
        write(x, 0, 8, 1);
        due("along x", x.which(0, 0), 1 | 8 | 32);
        write(x, 0, 8, 8);
        due("along y", x.which(0, 0), 2 | 16);
        write(x, 0, 8, 0);
        due("not at all", x.which(0, 0), 4 | 64);
        x.become(0, 9);
        // m 9: dreamer as engineer, foreman the next one, echo hears nothing, as it is not above 9 off.
        write(x, 0, 8, 1);
        due("along x, m 9", x.which(0, 0), 1 | 4);
        write(x, 0, 8, 8);
        due("along y, m 9", x.which(0, 0), 2 | 8 | 16);
        write(x, 0, 8, 0);
        due("not at all, m 9", x.which(0, 0), 32 | 64);
        x.change(0, 1);
        write(x, 0, 8, 9);
        due("the head of one's side", x.which(0, 0), 1 | 4);
        x.sheet(0, 8, 0);
        due("nothing is told", x.which(0, 0), 127);
        x.sheet(3, 8, 0);
        due("the last sheet", x.which(3, 0), 127);
        x.sheet(0, 0, 0);
        due("missing", x.which(0, 0), NONE);
        due("which(4, 0)", x.which(4, 0), BEYOND);
        due("which(-1, 0)", x.which(-1, 0), BEYOND);
        due("which(0, 1), missing", x.which(0, 1), BEYOND);
        due("which(0, -1)", x.which(0, -1), BEYOND);
        due("kind stays", x.ofEngineer(0, 0), 0);
        due("m stays", x.ofEngineer(0, 1), 9);
    }

    private static void join() {
        TunnelHearsay x = hard();
        due("itself, dug", x.join(24, 24), 0);
        due("itself, rock", x.join(0, 0), 9);
        due("6 cells of 9", x.join(24, 31), 54);
        due("both ends count", x.join(0, 1), 18);
        due("corner to corner, through 24 and 31", x.join(0, 63), 13 * 9);
        digAll(x, 16, 17, 18, 19, 20, 21, 22, 23);
        due("through what is dug", x.join(24, 31), 0);
        x.dig(19, 0);
        x.rock(19, 8);
        due("but for one", x.join(24, 31), 8);
        x.rock(11, 1);
        x.rock(10, 2);
        x.rock(12, 3);
        due("round about", x.join(24, 31), 6);
        due("the other way", x.join(31, 24), 6);
        due("join(64, 0)", x.join(64, 0), BEYOND);
        due("join(-1, 0)", x.join(-1, 0), BEYOND);
        due("join(0, 64)", x.join(0, 64), BEYOND);
        due("join(0, -1)", x.join(0, -1), BEYOND);
        due("only thought", x.ofCell(10, 1), 0);
        TunnelHearsay y = soft();
        due("no rock", y.join(0, 63), 0);
        y.rock(63, 7);
        due("no rock but at the end", y.join(0, 63), 7);
        due("no rock but at the beginning", y.join(63, 0), 7);
    }

    private static void steps() {
        TunnelHearsay x = fresh();
        due("none between", x.steps(24, 31), NONE);
        due("itself, dug", x.steps(24, 24), 0);
        due("itself, rock", x.steps(0, 0), NONE);
        due("from rock", x.steps(25, 24), NONE);
        due("to rock", x.steps(24, 25), NONE);
        digAll(x, 25, 26, 27, 28, 29, 30);
        due("straight", x.steps(24, 31), 7);
        x.dig(27, 0);
        digAll(x, 34, 35, 36, 18, 10, 11, 12, 20);
        due("the shorter way round", x.steps(24, 31), 9);
        due("and back", x.steps(31, 24), 9);
        x.dig(35, 0);
        due("the longer way round", x.steps(24, 31), 11);
        due("not from 31 to the next row", x.steps(31, 32), NONE);
        x.dig(32, 1);
        due("not past the side", x.steps(31, 32), 8 + 4);
        digAll(x, 63, 62);
        due("the last cell", x.steps(63, 62), 1);
        due("to the last cell", x.steps(62, 63), 1);
        due("steps(64, 0)", x.steps(64, 0), BEYOND);
        due("steps(0, 64)", x.steps(0, 64), BEYOND);
        due("steps(-1, 0)", x.steps(-1, 0), BEYOND);
        due("steps(0, -1)", x.steps(0, -1), BEYOND);
    }

    private static void hand() {
        TunnelHearsay x = fresh();
        due("alone he stays", x.hand(24, 0, 200), 24);
        digAll(x, 25, 26, 18, 34, 10);
        // A cross at 26, with an arm of two to 10: 24 25 26 18 10 18 26 34 26 25 24 25 ..
        int[] path = {24, 25, 26, 18, 10, 18, 26, 34, 26, 25, 24, 25, 26, 18};
        for (int n = 0; n < path.length; n++) {
            due("hand(24, 1, " + n + ")", x.hand(24, 1, n), path[n]);
        }
        due("he came by 1 and goes left", x.hand(26, 1, 1), 18);
        due("by 2: left of it is 1, which is rock: on", x.hand(26, 2, 1), 34);
        due("by 3: left of it is 2", x.hand(26, 3, 1), 34);
        due("by 0: left of it is 3", x.hand(26, 0, 1), 25);
        x.dig(18, 0);
        due("by 0 from 25", x.hand(25, 0, 1), 24);
        x.dig(25, 0);
        due("by 1: own and left are rock: the next", x.hand(26, 1, 1), 34);
        due("by 0: the opposite one", x.hand(26, 0, 1), 34);
        due("hand(64, 0, 0)", x.hand(64, 0, 0), BEYOND);
        due("hand(-1, 0, 0)", x.hand(-1, 0, 0), BEYOND);
        due("hand(24, 4, 0)", x.hand(24, 4, 0), BEYOND);
        due("hand(24, -1, 0)", x.hand(24, -1, 0), BEYOND);
        due("hand(24, 0, 201)", x.hand(24, 0, 201), BEYOND);
        due("hand(24, 0, -1)", x.hand(24, 0, -1), BEYOND);
        due("from rock", x.hand(0, 0, 0), STATE);
        due("from rock, by no way", x.hand(0, 4, 0), BEYOND);
        due("0 times", x.hand(31, 3, 0), 31);
        TunnelHearsay y = fresh();
        for (int cell = 0; cell < 64; cell++) {
            y.dig(cell, 1);
        }
        due("round the hill", y.hand(0, 1, 28), 0);
        due("round the hill, by the right side", y.hand(0, 1, 9), 23);
        due("200 times", y.hand(0, 1, 200), 4);
        due("from the last cell", y.hand(63, 2, 1), 62);
    }

    private static void parts() {
        TunnelHearsay x = fresh();
        due("two", x.parts(), 2);
        x.head(1, 0, 25);
        due("31 is alone, 24 and 25 are one", x.parts(), 2);
        x.dig(31, 0);
        due("one", x.parts(), 1);
        x.dig(32 + 2, 1);
        due("aslant is apart", x.parts(), 2);
        TunnelHearsay y = fresh();
        y.dig(32, 1);
        due("31 and 32 don't hang together", y.parts(), 2);
        TunnelHearsay z = fresh();
        for (int cell = 0; cell < 64; cell++) {
            z.dig(cell, (cell / 8 + cell % 8) % 2);
        }
        // 24 (y 3, x 0) is odd, 31 (y 3, x 7) even: it joins 23, 30 and 39.
        due("all odd cells, 31 with three of them", z.parts(), 30);
        for (int cell = 0; cell < 64; cell++) {
            z.dig(cell, 1);
        }
        due("all", z.parts(), 1);
        TunnelHearsay corners = fresh();
        digAll(corners, 0, 63);
        due("the first and the last cell, too", corners.parts(), 4);
    }

    private static void odds() {
        TunnelHearsay x = soft();
        due("certain, above", x.odds(0, 7, 0), 1);
        due("certain, below", x.odds(0, 7, 1), 1);
        due("never, above", x.odds(0, 6, 0), 0);
        due("never, below", x.odds(0, 6, 1), 1);
        // 1 went 0, 1, .. 5 along the top; 0 stands at 16 then, 2 off by y.
        x.delay(0);
        x.head(1, 0, 0);
        x.head(0, 0, 7);
        x.engineer(0, 1);
        x.years(5);
        x.change(0, 0);
        x.head(0, 0, 18);
        // Heard at 5, 4, 3, 2, 1, 0, 0 .. 0 by delay 0, 1, .. 9 from (2, 2): by x 3, 2, 1, 0, -1, -2 ..:
        // along x to the more by 0, 1 (nearer), along y by 2, 3, 4 (nearer), x to the less by 5 .. 9 (not).
        due("a half, above", x.odds(1, 4, 0), 1);
        due("a half, below", x.odds(1, 4, 1), 2);
        x.become(0, 10);
        due("a surveyor is always nearer, above", x.odds(1, 4, 0), 1);
        due("a surveyor is always nearer, below", x.odds(1, 4, 1), 1);
        x.become(0, 20);
        // The dreamer (year 5) turns all round: nearer by 5 .. 9.
        due("a half the other way, above", x.odds(1, 4, 0), 1);
        due("a half the other way, below", x.odds(1, 4, 1), 2);
        x.become(0, 0);
        x.head(0, 0, 17);
        // From (1, 2): by x 4, 3, 2 | 1, 0 | -1 .. -1: nearer by 0 .. 2 along x, by all else along y.
        due("all, above", x.odds(1, 5, 0), 1);
        x.head(0, 0, 19);
        // From (3, 2): by x 2, 1, 0, -1, -2, -3 ..: nearer by 0 .. 3 alone, 6 are not.
        due("two fifths, above", x.odds(1, 3, 0), 2);
        due("two fifths, below", x.odds(1, 3, 1), 5);
        x.head(0, 0, 26);
        // From (2, 3): by x 3, 2, 1, 0, -1, -2: nearer along x by 0; along y by all else.
        due("all again", x.odds(1, 5, 0), 1);
        due("odds(31, 0, 0)", x.odds(31, 0, 0), BEYOND);
        due("odds(-1, 0, 0)", x.odds(-1, 0, 0), BEYOND);
        due("odds(0, 15, 0)", x.odds(0, 15, 0), BEYOND);
        due("odds(0, -1, 0)", x.odds(0, -1, 0), BEYOND);
        due("odds(0, 0, 2)", x.odds(0, 0, 2), BEYOND);
        due("odds(0, 0, -1)", x.odds(0, 0, -1), BEYOND);
        due("odds(30, 14, 1)", x.odds(30, 14, 1), 1);
        due("delay stays", x.count(2), 0);
    }

    // ---- draws, voices, sheets, images, what is told

    private static void seed() {
        TunnelHearsay x = fresh();
        due("seed(MIN)", x.seed(MIN), 1);
        due("seed(0)", x.seed(0), MIN);
        due("a number below LOW is no error", x.told(1) + x.told(2) + x.told(3) + x.told(4) + x.told(5), 0);
        x.loose(1);
        due("z by two draws", x.count(10), 12345 * 1103515245 + 12345);
    }

    private static void speaks(int km, int act, int x, int want, int... bodies) {
        TunnelHearsay t = fresh();
        t.engineer(0, 0);
        t.engineer(0, 0);
        t.engineer(km, 0);
        String call = "voice of " + km + " at 2, " + act + ", " + x;
        due(call, t.voice(2, act, x), want);
        due(call + ": bodies", t.count(9), bodies.length);
        for (int i = 0; i < bodies.length; i++) {
            due(call + ": trace " + i, t.trace(i), bodies[i]);
        }
        due(call + ": no more", t.trace(bodies.length), NONE);
    }

    private static void voice() {
        // n 2, m 3 throughout.
        speaks(3, 0, 5, 7, 10);
        speaks(3, 1, 5, 14, 11, 10);
        speaks(3, 2, 5, 2, 12);
        speaks(3, 3, 5, 14 ^ 2, 13, 11, 10, 12);
        speaks(13, 0, 5, 21, 20, 10);
        speaks(13, 1, 5, 42, 11, 20, 10);
        speaks(13, 2, 5, 2, 12);
        speaks(13, 3, 5, 42 ^ 2, 13, 11, 20, 10, 12);
        speaks(23, 0, 5, 7, 10);
        speaks(23, 1, 5, 14 + 2, 30, 11, 10, 12);
        speaks(23, 2, 5, 2, 12);
        speaks(23, 3, 5, 16 ^ 2, 13, 30, 11, 10, 12, 12);
        speaks(33, 2, 5, -2, 40, 12);
        speaks(33, 3, 5, 14 ^ -2, 13, 11, 10, 40, 12);
        speaks(43, 0, 5, 21, 20, 10);
        speaks(43, 3, 5, (42 ^ 2) - 12, 50, 13, 11, 20, 10, 12, 20, 10);
        speaks(53, 1, 5, 16 + 2, 60, 30, 11, 10, 12);
        speaks(53, 3, 5, 18 ^ 2, 13, 60, 30, 11, 10, 12, 12);
        speaks(63, 1, 5, 14, 11, 10);
        speaks(63, 2, 5, -2 ^ 2, 70, 40, 12);
        speaks(63, 3, 5, 14 - (14 ^ -2 ^ 2), 71, 11, 10, 13, 11, 10, 70, 40, 12);
        speaks(3, 0, MAX, MIN + 1, 10);
        speaks(3, 2, MIN, MAX - 2, 12);

        TunnelHearsay x = fresh();
        x.engineer(0, 0);
        x.voice(0, 1, 0);
        due("voice(1, 0, 0)", x.voice(1, 0, 0), BEYOND);
        due("voice(-1, 0, 0)", x.voice(-1, 0, 0), BEYOND);
        due("voice(0, 4, 0)", x.voice(0, 4, 0), BEYOND);
        due("voice(0, -1, 0)", x.voice(0, -1, 0), BEYOND);
        due("the trace stays", x.count(9), 2);
        due("a number below LOW", x.voice(0, 0, MIN), MIN);
        due("is no error", x.told(1), 4);
    }

    private static void trace() {
        TunnelHearsay x = fresh();
        due("none yet", x.trace(0), NONE);
        x.engineer(0, 0);
        x.voice(0, 3, 0);
        due("trace(3)", x.trace(3), 12);
        due("trace(4)", x.trace(4), NONE);
        due("trace(-1)", x.trace(-1), NONE);
        due("trace(40)", x.trace(40), NONE);
        due("trace(MIN)", x.trace(MIN), NONE);
        x.voice(0, 0, 0);
        due("of the latest alone", x.trace(1), NONE);
        due("its first", x.trace(0), 10);
    }

    private static void sheet() {
        TunnelHearsay x = fresh();
        due("sheet(0, 8, 40)", x.sheet(0, 8, 40), 1);
        due("sheet(3, 32, 0)", x.sheet(3, 32, 0), 1);
        due("sheet(1, 16, 1)", x.sheet(1, 16, 1), 1);
        due("sheet(4, 8, 0)", x.sheet(4, 8, 0), BEYOND);
        due("sheet(-1, 8, 0)", x.sheet(-1, 8, 0), BEYOND);
        due("sheet(0, 7, 0)", x.sheet(0, 7, 0), BEYOND);
        due("sheet(0, 64, -1)", x.sheet(0, 64, -1), BEYOND);
        due("sheet(4, 8, -1)", x.sheet(4, 8, -1), BEYOND);
        due("sheet(0, 8, -1)", x.sheet(0, 8, -1), STATE);
        due("sheet(0, 8, MIN)", x.sheet(0, 8, MIN), STATE);
        due("sheet(0, 8, 41)", x.sheet(0, 8, 41), BEYOND);
        due("40 numbers stay", x.rocks(0), 40);
        x.put(0, 0, 5);
        due("sheet(0, 8, 1)", x.sheet(0, 8, 1), 1);
        x.rocks(0);
        due("all 0", x.ofCell(0, 0), 0);
        due("sheet(0, 0, -1)", x.sheet(0, 0, -1), 1);
        due("missing", x.rocks(0), NONE);
        due("missing again", x.sheet(0, 0, 99), 1);
        due("a missing one of no such sheet", x.sheet(4, 0, 0), BEYOND);
    }

    private static void put() {
        TunnelHearsay x = fresh();
        due("missing", x.put(0, 0, 0), NONE);
        due("missing, and no such number", x.put(0, -1, 0), NONE);
        due("put(4, 0, 0)", x.put(4, 0, 0), BEYOND);
        due("put(-1, 0, 0)", x.put(-1, 0, 0), BEYOND);
        x.sheet(0, 8, 2);
        due("put(0, 2, 0)", x.put(0, 2, 0), BEYOND);
        due("put(0, -1, 0)", x.put(0, -1, 0), BEYOND);
        due("put(0, 1, 256 + 7)", x.put(0, 1, 256 + 7), 1);
        due("both are 0 to 9", x.rocks(0), 2);
        due("its lowest bits", x.ofCell(1, 0), 7);
        x.put(0, 0, -1);
        due("255 isn't", x.rocks(0), 0);
        x.put(0, 0, -256 + 3);
        x.rocks(0);
        due("lowest bits of one below 0", x.ofCell(0, 0), 3);
        x.sheet(1, 16, 1);
        x.put(1, 0, 256 + 7);
        due("263 stays in 16 bits", x.rocks(1), 0);
        x.put(1, 0, 65536 + 6);
        due("lowest 16", x.rocks(1), 1);
        due("6", x.ofCell(0, 0), 6);
        x.sheet(2, 32, 1);
        x.put(2, 0, 65536 + 6);
        due("all 32", x.rocks(2), 0);
        x.put(2, 0, MIN);
        due("below 0", x.rocks(2), 0);
    }

    private static void rocksAre(TunnelHearsay x, int sheet, int... numbers) {
        x.rocks(sheet);
        for (int i = 0; i < numbers.length; i++) {
            due("number " + i + " of sheet " + sheet, x.ofCell(i, 0), numbers[i]);
        }
    }

    private static void move() {
        TunnelHearsay x = fresh();
        write(x, 0, 8, 1, 2, 3, 4, 5);
        write(x, 1, 8, 9, 9, 9);
        write(x, 2, 16, 7);
        due("move(0, 1, 1, 0, 2)", x.move(0, 1, 1, 0, 2), 2);
        rocksAre(x, 1, 2, 3, 9);
        due("up, within", x.move(0, 0, 0, 1, 4), 4);
        rocksAre(x, 0, 1, 1, 2, 3, 4);
        due("down, within", x.move(0, 2, 0, 0, 3), 3);
        rocksAre(x, 0, 2, 3, 4, 3, 4);
        due("none", x.move(0, 5, 1, 3, 0), 0);
        due("all of it", x.move(1, 0, 1, 0, 3), 3);
        due("no such sheet", x.move(4, 0, 0, 0, 0), BEYOND);
        due("no such other", x.move(3, 0, 4, 0, 0), BEYOND);
        due("no such sheet, -1", x.move(-1, 0, 0, 0, 0), BEYOND);
        due("no such other, -1", x.move(0, 0, -1, 0, 0), BEYOND);
        due("one is missing", x.move(3, -1, 0, 0, 0), NONE);
        due("the other is missing", x.move(2, 0, 3, 0, -1), NONE);
        due("unlike", x.move(0, -1, 2, 0, 99), KIND);
        due("n below 0", x.move(0, 0, 1, 0, -1), BEYOND);
        due("i below 0", x.move(0, -1, 1, 0, 1), BEYOND);
        due("j below 0", x.move(0, 0, 1, -1, 1), BEYOND);
        due("not there", x.move(0, 4, 1, 0, 2), BEYOND);
        due("not there, either", x.move(0, 0, 1, 2, 2), BEYOND);
        due("more than all", x.move(0, 0, 1, 0, 4), BEYOND);
        due("far off", x.move(0, MAX, 1, 0, MAX), BEYOND);
        due("far off, too", x.move(0, 0, 1, MAX, 1), BEYOND);
        rocksAre(x, 0, 2, 3, 4, 3, 4);
        rocksAre(x, 1, 2, 3, 9);
    }

    private static void rocks() {
        TunnelHearsay x = fresh();
        due("missing", x.rocks(0), NONE);
        due("rocks(4)", x.rocks(4), BEYOND);
        due("rocks(-1)", x.rocks(-1), BEYOND);
        x.sheet(0, 8, 0);
        due("none", x.rocks(0), 0);
        write(x, 0, 8, 9, 0, 8);
        due("three", x.rocks(0), 3);
        rocksAre(x, 0, 9, 0, 8, 3);
        write(x, 0, 32, 4, 4, -1, 4);
        due("up to the first that is not", x.rocks(0), 2);
        rocksAre(x, 0, 4, 4, 8, 3);
        write(x, 0, 16, 10);
        due("10 is not", x.rocks(0), 0);
        x.sheet(1, 8, 40);
        due("40", x.rocks(1), 40);
        x.sheet(3, 16, 1);
        due("the last sheet", x.rocks(3), 1);
        due("39", x.ofCell(39, 0), 0);
        due("41", x.ofCell(41, 0), 1);
        due("no error", x.told(1), 2);
    }

    private static void judge() {
        TunnelHearsay x = fresh();
        due("missing", x.judge(0), NONE);
        due("judge(4)", x.judge(4), BEYOND);
        due("judge(-1)", x.judge(-1), BEYOND);
        x.sheet(0, 8, 0);
        due("none of none", x.judge(0), -1);
        x.engineer(0, 1);
        due("one lacks", x.judge(0), 0);
        x.engineer(0, 0);
        x.engineer(0, 1);
        write(x, 0, 8, 1, 0, 1);
        due("all are", x.judge(0), -1);
        write(x, 0, 8, 1, 0);
        due("the third lacks", x.judge(0), 2);
        write(x, 0, 8, 1, 0, 1, 0);
        due("a fourth is too many", x.judge(0), 3);
        write(x, 0, 32, 1, 1, 0, 0);
        due("the second isn't so", x.judge(0), 1);
        write(x, 0, 16, 2);
        due("no side", x.judge(0), 0);
        write(x, 3, 16, 1, 0, 1);
        due("the last sheet", x.judge(3), -1);
    }

    private static void image() {
        TunnelHearsay x = fresh();
        due("once", x.image(), 1);
        due("twice", x.image(), 2);
        x.restore();
        due("thrice", x.image(), 3);
        x.rock(0, 7);
        x.restore();
        due("the old one stays till there is a new one", x.ofCell(0, 0), 0);
        x.rock(0, 7);
        due("four times", x.image(), 4);
        x.rock(0, 6);
        x.restore();
        due("in place of one ahead", x.ofCell(0, 0), 7);
    }

    private static void restore() {
        TunnelHearsay x = soft();
        due("none", x.restore(), NONE);
        x.engineer(13, 0);
        give(x, 0, "e+1");
        give(x, 1, "p+2");
        x.years(2);
        x.head(0, 2, 9);
        x.head(1, 1, 8);
        x.seed(77);
        x.tell(4);
        x.feed('e', 1);
        x.delay(3);
        x.image();

        x.years(4);
        x.rock(5, 5);
        x.dig(50, 1);
        x.head(0, 0, 50);
        x.head(0, 2, 1);
        x.head(1, 1, 1);
        x.delay(0);
        x.engineer(0, 1);
        x.become(0, 69);
        x.change(0, 1);
        x.feed('+', 1);
        x.text(0);
        give(x, 0, "7");
        give(x, 1, "7");
        x.seed(1);
        x.tell(6);
        x.feed('9', 1);
        x.sheet(0, 8, 1);
        x.voice(1, 0, 0);
        x.rock(-1, 0);

        due("the year", x.restore(), 2);
        due("count(0)", x.count(0), 1);
        due("count(1)", x.count(1), 2);
        due("count(2)", x.count(2), 3);
        due("count(4)", x.count(4), 4);
        due("count(5)", x.count(5), 0);
        due("count(7)", x.count(7), 1);
        due("count(8)", x.count(8), 1);
        due("count(10)", x.count(10), 77);
        due("at", x.ofHead(0, 0), 26);
        due("work", x.ofHead(0, 2), 9);
        due("last", x.ofHead(0, 3), 1);
        due("power", x.ofHead(1, 1), 8);
        due("where it was", x.ofHead(1, 5), 24);
        x.delay(1);
        due("where it was a year ago", x.ofHead(1, 5), 25);
        due("kind", x.ofEngineer(0, 0), 1);
        due("m", x.ofEngineer(0, 1), 3);
        due("side", x.ofEngineer(0, 2), 0);
        due("text 0", x.law(0, 3, 0, 0), 4);
        due("text 1", x.law(1, 3, 0, 0), 5);
        due("the tape", x.text(0), 1);
        due("the tape is e", x.law(0, 3, 0, 0), 3);
        due("sheets are not of it", x.put(0, 0, 0), 1);
        due("nor the trace", x.trace(0), 10);
        due("nor what is told", x.told(1), 1);
        due("nor that", x.told(2), 1);
        due("the numbers that wait", x.check(), 0);
        due("it stays", x.restore(), 2);
        due("its delay", x.count(2), 3);
        due("nor how often", x.image(), 2);

        TunnelHearsay y = fresh();
        y.image();
        give(y, 0, "9");
        y.restore();
        due("no text again", y.law(0, 4, 0, 0), 4);
    }

    private static void tell() {
        TunnelHearsay x = fresh();
        for (int i = 1; i <= 20; i++) {
            due("tell " + i, x.tell(i == 1 ? MIN : i), i);
        }
        due("one too many", x.tell(0), FULL);
        due("20 wait", x.count(8), 20);
        x.check();
        due("from anew", x.tell(0), 1);
    }

    private static void check() {
        TunnelHearsay x = soft();
        due("none wait", x.check(), 0);
        x.engineer(0, 0);
        x.tell(6);
        x.tell(5);
        x.tell(4);
        due("all are", x.check(), 0);
        due("none wait then", x.count(8), 0);
        x.tell(6);
        x.tell(5);
        x.tell(5);
        due("the third isn't", x.check(), 3);
        due("none wait then, either", x.count(8), 0);
        x.tell(7);
        x.tell(5);
        due("the first isn't", x.check(), 1);
        for (int i = 1; i <= 20; i++) {
            x.tell(i == 20 ? 1 : Math.max(0, 7 - i));
        }
        due("the last isn't", x.check(), 20);
        due("only thought", x.count(1), 0);
    }

    private static void count() {
        TunnelHearsay x = soft();
        x.engineer(0, 0);
        x.engineer(0, 1);
        x.engineer(10, 1);
        x.delay(5);
        x.years(2);
        x.rock(9, 9);
        x.rock(24, 8);
        x.feed(0L, 7);
        x.tell(0);
        x.tell(0);
        x.tell(0);
        x.voice(0, 3, 0);
        x.seed(MIN);
        int[] counts = {3, 2, 5, 3, 6, 17, 2, 7, 3, 4, MIN};
        for (int what = 0; what < counts.length; what++) {
            due("count(" + what + ")", x.count(what), counts[what]);
        }
        due("count(11)", x.count(11), BEYOND);
        due("count(-1)", x.count(-1), BEYOND);
        due("z below LOW is no error", x.told(1), 2);
        x.change(0, 1);
        x.change(1, 0);
        due("those of side 1", x.count(6), 2);
        x.change(2, 0);
        due("0 is of side 1", x.count(6), 1);
        x.image();
        x.engineer(0, 1);
        x.restore();
        due("none of those who are no more", x.count(6), 1);
    }

    private static void told() {
        TunnelHearsay x = fresh();
        x.rock(64, 0);
        x.restore();
        x.restore();
        x.dig(24, 0);
        x.dig(24, 0);
        x.dig(24, 0);
        for (int i = 0; i < 24; i++) {
            x.tell(0);
        }
        x.engineer(0, 0);
        for (int i = 0; i < 5; i++) {
            x.as(0, 1);
        }
        for (int k = 1; k <= 5; k++) {
            due("told(" + k + ")", x.told(k), k);
        }
        due("told(0)", x.told(0), BEYOND);
        due("told(6)", x.told(6), BEYOND);
        due("told(-1)", x.told(-1), BEYOND);
        due("told(MIN)", x.told(MIN), BEYOND);
        due("counted, too", x.told(1), 5);
        eachIsCounted();
    }

    /** Each act counts each of its errors once, under its own number alone. */
    private static void eachIsCounted() {
        TunnelHearsay x = fresh();
        for (int i = 0; i < 8; i++) {
            x.engineer(0, 0);
        }
        for (int i = 0; i < 20; i++) {
            x.tell(0);
        }
        for (int i = 0; i < 6; i++) {
            x.feed(0L, 8);
        }
        x.sheet(0, 8, 1);
        x.sheet(1, 16, 1);
        counted(x, 1, x::rock, 64, 0);
        counted(x, 1, x::dig, 64, 0);
        counted(x, 3, x::dig, 24, 0);
        counted(x, 1, x::ofCell, 0, 3);
        counted(x, 1, (a, b) -> x.head(a, b, 0), 2, 0);
        counted(x, 1, x::ofHead, 0, 6);
        counted(x, 1, (a, b) -> x.delay(a), 10, 0);
        counted(x, 1, x::engineer, 70, 0);
        counted(x, 4, x::engineer, 0, 0);
        counted(x, 1, x::ofEngineer, 8, 0);
        counted(x, 1, x::change, 0, 2);
        counted(x, 1, x::become, 0, 70);
        counted(x, 1, x::as, 0, 7);
        counted(x, 5, x::as, 0, 1);
        counted(x, 1, (a, b) -> x.feed(0L, a), 9, 0);
        counted(x, 4, (a, b) -> x.feed(0L, a), 3, 0);
        counted(x, 1, (a, b) -> x.text(a), 2, 0);
        counted(x, 1, (a, b) -> x.law(a, 0, 0, 0), 2, 0);
        counted(x, 1, (a, b) -> x.years(a), 0, 0);
        counted(x, 1, (a, b) -> x.loose(a), 0, 0);
        counted(x, 1, (a, b) -> x.then(a, b, 0), 61, 0);
        counted(x, 1, (a, b) -> x.apart(a), 61, 0);
        counted(x, 1, (a, b) -> x.delayFor(a), 61, 0);
        counted(x, 1, (a, b) -> x.powerFor(a, b, 0), 2, 0);
        counted(x, 2, (a, b) -> x.powerFor(a, b, 0), 0, 0);
        counted(x, 1, (a, b) -> x.needless(a), 61, 0);
        counted(x, 1, (a, b) -> x.heard(a, b, 0), 4, 0);
        counted(x, 2, (a, b) -> x.heard(a, b, 0), 3, 0);
        x.put(0, 0, 255);
        counted(x, 2, (a, b) -> x.heard(a, b, 1), 0, 0);
        counted(x, 1, x::which, 4, 0);
        counted(x, 2, x::which, 3, 0);
        counted(x, 1, x::join, 64, 0);
        counted(x, 1, x::steps, 64, 0);
        counted(x, 2, x::steps, 0, 0);
        counted(x, 1, (a, b) -> x.hand(a, b, 0), 0, 4);
        counted(x, 3, (a, b) -> x.hand(a, b, 0), 0, 0);
        counted(x, 1, (a, b) -> x.odds(a, b, 0), 31, 0);
        counted(x, 1, (a, b) -> x.voice(a, b, 0), 8, 0);
        counted(x, 2, (a, b) -> x.trace(a), 0, 0);
        counted(x, 1, (a, b) -> x.sheet(0, a, b), 7, 0);
        counted(x, 3, (a, b) -> x.sheet(0, a, b), 8, -1);
        counted(x, 1, (a, b) -> x.sheet(0, a, b), 8, 41);
        counted(x, 1, (a, b) -> x.put(a, b, 0), 4, 0);
        counted(x, 2, (a, b) -> x.put(a, b, 0), 3, 0);
        counted(x, 1, (a, b) -> x.put(a, b, 0), 0, 1);
        counted(x, 1, (a, b) -> x.move(a, 0, b, 0, 0), 4, 0);
        counted(x, 2, (a, b) -> x.move(a, 0, b, 0, 0), 3, 0);
        counted(x, 5, (a, b) -> x.move(a, 0, b, 0, 0), 1, 0);
        counted(x, 1, (a, b) -> x.move(a, 0, b, 0, 2), 0, 0);
        counted(x, 1, (a, b) -> x.rocks(a), 4, 0);
        counted(x, 2, (a, b) -> x.rocks(a), 3, 0);
        counted(x, 1, (a, b) -> x.judge(a), 4, 0);
        counted(x, 2, (a, b) -> x.judge(a), 3, 0);
        counted(x, 2, (a, b) -> x.restore(), 0, 0);
        counted(x, 4, (a, b) -> x.tell(a), 0, 0);
        counted(x, 1, (a, b) -> x.count(a), 11, 0);
        counted(x, 1, (a, b) -> x.told(a), 0, 0);
        TunnelHearsay alone = fresh();
        counted(alone, 2, (a, b) -> alone.meets(), 0, 0);
        for (int i = 0; i < 166; i++) {
            alone.years(60);
        }
        counted(alone, 3, (a, b) -> alone.years(a), 40, 0);
        counted(alone, 3, (a, b) -> alone.loose(a), 40, 0);
    }

    private static void counted(TunnelHearsay x, int error, java.util.function.IntBinaryOperator act, int a, int b) {
        int[] before = new int[6];
        for (int k = 1; k <= 5; k++) {
            before[k] = x.told(k);
        }
        before[error]++;
        due("an act that fails", act.applyAsInt(a, b), LOW - error);
        // An object is used for 512 calls alone: the error's own count, and the next one's.
        due("counted under " + error, x.told(error), before[error]);
        int next = error % 5 + 1;
        due("not counted under " + next, x.told(next), before[next]);
    }
}
