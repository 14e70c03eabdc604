/** The edges that the document names of THE HILL and HEADS: terms 1, promises 1 to 7. A test for each sentence. */
public final class HillEdgesTest extends Asking {
    public static void main(String[] args) {
        says("An object is used for at most 512 calls"); lastCall();
        says("CELLS 0 .. 63 (8 times y, and x; y, x 0 to 7)"); corners();
        says("ROCK (0 to 9)"); rockOfEdges();
        says("ROCK at first what its number leaves by 10"); rockAtFirst();
        says("DUG or not"); dugOrNot();
        says("WAYS 0 y less, 1 x more, 2 y more, 3 x less"); ways();
        says("if there is no CELL that way: nothing"); borders();
        says("HEADS 0, 1, each AT a CELL (24 and 31 at first; those are DUG)"); headsAtFirst();
        says("POWER (0 to 20; 5 at first)"); power();
        says("WORK (0 to 99; 0 at first)"); work();
        says("LAST (the WAY that it went last; 4, none, at first)"); last();
        says("DELAY (0 to 9; 2 at first)"); delay();
        says("YEAR (0 to 9999; 0 at first)"); year();
        says("FAR: how many x and how many y they are apart, together"); far();
        says("MET: both HEADS are AT one CELL"); met();
        says("dig: what it was"); digWhatItWas();
        says("dig: STATE: a HEAD is AT it (v 0)"); digUnderHead();
        says("ofCell: HEADS AT it, as a set"); headsAsSet();
        says("head: that CELL is DUG then"); headDigs();
        says("head: it was there all YEARS ago"); headWasThere();
        says("A HEAD HEARS the other one in the CELL where that was DELAY YEARS ago"); hears();
        says("HEARS, in years ahead of the first"); hearsAheadOfAll();
        end();
    }

    private static void lastCall() {
        TunnelHearsay x = fresh();
        for (int i = 1; i <= 511; i++) {
            x.rock(63, i % 10);
        }
        due("the 512th", x.ofCell(63, 0), 1);
        TunnelHearsay y = fresh();
        for (int i = 1; i <= 511; i++) {
            y.told(0);
        }
        due("the 512th, behind 511 that were refused", y.told(1), 511);
        TunnelHearsay z = fresh();
        for (int i = 1; i <= 511; i++) {
            z.image();
        }
        due("the 512th image", z.image(), 512);
    }

    private static void corners() {
        int[][] apart = {{0, 63, 14}, {63, 0, 14}, {7, 56, 14}, {56, 7, 14}, {0, 7, 7}, {0, 56, 7}, {63, 7, 7}, {63, 56, 7}};
        for (int[] row : apart) {
            due(row[0] + " and " + row[1], headsAt(fresh(), row[0], row[1]).count(3), row[2]);
        }
        due("7 and 8 are in two rows", headsAt(fresh(), 7, 8).count(3), 8);
        due("55 and 56 are in two rows", headsAt(fresh(), 55, 56).count(3), 8);
    }

    private static void rockOfEdges() {
        TunnelHearsay x = fresh();
        due("rock(0, 9)", x.rock(0, 9), 0);
        due("rock(0, 0)", x.rock(0, 0), 9);
        due("rock(0, 0) again", x.rock(0, 0), 0);
        due("rock(63, 9)", x.rock(63, 9), 3);
        due("ofCell(63, 0)", x.ofCell(63, 0), 9);
        due("ofCell(62, 0) is as it was", x.ofCell(62, 0), 2);
        due("ofCell(1, 0) is as it was", x.ofCell(1, 0), 1);
        due("all 9: 64 times", hard().count(5), 576);
        due("all 0", soft().count(5), 0);
    }

    private static void rockAtFirst() {
        TunnelHearsay x = fresh();
        int[][] rocks = {{0, 0}, {9, 9}, {10, 0}, {19, 9}, {20, 0}, {24, 4}, {31, 1}, {59, 9}, {60, 0}, {63, 3}};
        for (int[] row : rocks) {
            due("rock of " + row[0], x.ofCell(row[0], 0), row[1]);
        }
    }

    private static void dugOrNot() {
        TunnelHearsay x = fresh();
        due("two at first", x.count(4), 2);
        for (int cell = 0; cell < 64; cell++) {
            x.dig(cell, 1);
        }
        due("all", x.count(4), 64);
        for (int cell = 0; cell < 64; cell++) {
            x.dig(cell, 0);
        }
        due("all but where heads are", x.count(4), 2);
        due("24", x.ofCell(24, 1), 1);
        due("31", x.ofCell(31, 1), 1);
        due("rock is as it was", x.count(5), 276);
    }

    /** A head with one engineer goes a year toward what it hears. */
    private static int oneYear(int from, int toward) {
        TunnelHearsay x = headsAt(soft(), from, toward);
        x.engineer(0, 0);
        x.years(1);
        return x.ofHead(0, 0);
    }

    private static void ways() {
        due("y less", oneYear(35, 3), 27);
        due("x more", oneYear(35, 39), 36);
        due("y more", oneYear(35, 59), 43);
        due("x less", oneYear(35, 32), 34);
        due("from 15 up to the first row", oneYear(15, 7), 7);
        due("from 48 down to the last row", oneYear(48, 56), 56);
        due("from 1 to the first x", oneYear(1, 0), 0);
        due("from 62 to the last x", oneYear(62, 63), 63);
    }

    /** A dreamer of m 0 in year 0 points away from what it hears: past the border, to where nothing wraps around. */
    private static void outward(int from, int toward, int way, int wrapped) {
        TunnelHearsay x = headsAt(soft(), from, toward);
        x.dig(wrapped, 1);
        x.head(0, 2, 7);
        x.engineer(20, 0);
        int dug = x.count(4);
        due("hearkens at " + from, x.ofHead(0, 4), way);
        x.years(1);
        due("at " + from, x.ofHead(0, 0), from);
        due("work at " + from, x.ofHead(0, 2), 7);
        due("last at " + from, x.ofHead(0, 3), 4);
        due("dug from " + from, x.count(4), dug);
        due("the year", x.count(1), 1);
    }

    private static void borders() {
        outward(3, 59, 0, 59);
        outward(60, 4, 2, 4);
        outward(7, 0, 1, 8);
        outward(8, 15, 3, 7);
        outward(63, 56, 1, 0);
        outward(0, 7, 3, 63);
        outward(0, 56, 0, 56);
        outward(63, 7, 2, 7);
    }

    private static void headsAtFirst() {
        TunnelHearsay x = fresh();
        due("0", x.ofHead(0, 0), 24);
        due("1", x.ofHead(1, 0), 31);
        due("24 is dug", x.ofCell(24, 1), 1);
        due("31 is dug", x.ofCell(31, 1), 1);
        due("23 isn't", x.ofCell(23, 1), 0);
        due("25 isn't", x.ofCell(25, 1), 0);
        due("30 isn't", x.ofCell(30, 1), 0);
        due("32 isn't", x.ofCell(32, 1), 0);
        due("they are 7 apart", x.count(3), 7);
    }

    private static void power() {
        TunnelHearsay x = fresh();
        for (int head = 0; head < 2; head++) {
            due("at first", x.ofHead(head, 1), 5);
            due("20", x.head(head, 1, 20), 5);
            due("20 it is", x.ofHead(head, 1), 20);
            due("0", x.head(head, 1, 0), 20);
            due("0 it is", x.ofHead(head, 1), 0);
            due("21 isn't", x.head(head, 1, 21), BEYOND);
            due("-1 isn't", x.head(head, 1, -1), BEYOND);
            due("0 it stays", x.ofHead(head, 1), 0);
        }
    }

    private static void work() {
        TunnelHearsay x = fresh();
        for (int head = 0; head < 2; head++) {
            due("at first", x.ofHead(head, 2), 0);
            due("99", x.head(head, 2, 99), 0);
            due("99 it is", x.ofHead(head, 2), 99);
            due("100 isn't", x.head(head, 2, 100), BEYOND);
            due("-1 isn't", x.head(head, 2, -1), BEYOND);
            due("0", x.head(head, 2, 0), 99);
            due("0 it is", x.ofHead(head, 2), 0);
        }
    }

    private static void last() {
        TunnelHearsay x = headsAt(soft(), 9, 11);
        x.delay(0);
        x.engineer(0, 0);
        due("at first", x.ofHead(0, 3), 4);
        x.years(1);
        due("x more", x.ofHead(0, 3), 1);
        x.head(1, 0, 34);
        x.years(1);
        due("y more", x.ofHead(0, 3), 2);
        x.head(1, 0, 16);
        x.years(1);
        due("x less", x.ofHead(0, 3), 3);
        x.head(1, 0, 1);
        x.years(1);
        due("y less", x.ofHead(0, 3), 0);
        x.head(0, 0, 40);
        due("as it was, where it was put", x.ofHead(0, 3), 0);
        due("the other one never went", x.ofHead(1, 3), 4);
    }

    private static void delay() {
        TunnelHearsay x = fresh();
        due("at first", x.count(2), 2);
        due("9", x.delay(9), 2);
        due("10 isn't", x.delay(10), BEYOND);
        due("-1 isn't", x.delay(-1), BEYOND);
        due("9 it stays", x.count(2), 9);
        due("0", x.delay(0), 9);
        due("0 it is", x.count(2), 0);
    }

    private static void year() {
        TunnelHearsay x = fresh();
        due("at first", x.count(1), 0);
        pass(x, 9999);
        due("9999", x.count(1), 9999);
        due("no more", x.years(1), STATE);
        due("9999 it stays", x.count(1), 9999);
        due("an image of it", x.image(), 1);
        due("is of that year", x.restore(), 9999);
    }

    private static void far() {
        due("nothing", headsAt(fresh(), 27, 27).count(3), 0);
        due("an x", headsAt(fresh(), 27, 28).count(3), 1);
        due("a y", headsAt(fresh(), 27, 35).count(3), 1);
        due("both", headsAt(fresh(), 27, 36).count(3), 2);
        due("both, x the other way", headsAt(fresh(), 28, 35).count(3), 2);
        due("7 and 7", headsAt(fresh(), 0, 63).count(3), 14);
    }

    private static void met() {
        TunnelHearsay x = headsAt(soft(), 27, 27);
        x.engineer(40, 0);
        due("now", x.meets(), 0);
        due("stay", x.years(1), 0);
        TunnelHearsay y = headsAt(soft(), 27, 28);
        due("beside one another isn't", y.meets(), NONE);
    }

    private static void digWhatItWas() {
        TunnelHearsay x = fresh();
        due("rock", x.dig(63, 1), 0);
        due("dug", x.dig(63, 1), 1);
        due("dug, still", x.dig(63, 0), 1);
        due("rock again", x.dig(63, 0), 0);
        due("its rock", x.ofCell(63, 0), 3);
    }

    private static void digUnderHead() {
        TunnelHearsay x = soft();
        due("head 0", x.dig(24, 0), STATE);
        due("head 1", x.dig(31, 0), STATE);
        due("v 1 is taken", x.dig(24, 1), 1);
        due("still dug", x.ofCell(24, 1), 1);
        x.engineer(0, 0);
        x.years(1);
        due("once it is gone by a year", x.dig(24, 0), 1);
        due("where it is then", x.dig(25, 0), STATE);
        x.head(0, 0, 31);
        due("once it is put elsewhere", x.dig(25, 0), 1);
        due("both there", x.dig(31, 0), STATE);
        x.head(1, 0, 0);
        due("one there still", x.dig(31, 0), STATE);
        x.head(0, 0, 0);
        due("nobody there", x.dig(31, 0), 1);
    }

    private static void headsAsSet() {
        TunnelHearsay x = fresh();
        due("none", x.ofCell(0, 2), 0);
        due("0", x.ofCell(24, 2), 1);
        due("1", x.ofCell(31, 2), 2);
        headsAt(x, 63, 63);
        due("both", x.ofCell(63, 2), 3);
        due("none any more", x.ofCell(24, 2) + x.ofCell(31, 2), 0);
        headsAt(x, 0, 63);
        due("0 at 0", x.ofCell(0, 2), 1);
        due("1 at 63", x.ofCell(63, 2), 2);
    }

    private static void headDigs() {
        TunnelHearsay x = fresh();
        due("from 24", x.head(0, 0, 63), 24);
        due("63 is dug", x.ofCell(63, 1), 1);
        due("24 stays so", x.ofCell(24, 1), 1);
        due("three are", x.count(4), 3);
        due("where it is", x.head(0, 0, 63), 63);
        due("three still", x.count(4), 3);
        due("where the other one is", x.head(1, 0, 63), 31);
        due("three yet", x.count(4), 3);
        due("rock stays", x.ofCell(63, 0), 3);
        due("power, work: no cell is dug", x.head(0, 1, 7) + x.head(0, 2, 8) + x.count(4), 5 + 3);
    }

    private static void headWasThere() {
        TunnelHearsay x = headsAt(soft(), 0, 7);
        x.delay(0);
        x.engineer(0, 0);
        x.years(5);
        x.delay(9);
        due("nine years ago is ahead of all", x.ofHead(1, 5), 0);
        due("to where it is", x.head(0, 0, 5), 5);
        for (int delay = 0; delay <= 9; delay++) {
            x.delay(delay);
            due("by " + delay, x.ofHead(1, 5), 5);
            due("the other one's years are its own", x.ofHead(0, 5), 7);
        }
        x.delay(0);
        x.years(1);
        x.delay(1);
        due("a year goes on from there", x.ofHead(1, 5), 5);
        x.head(0, 1, 3);
        x.head(0, 2, 3);
        due("power, work: it was where it was", x.ofHead(1, 5), 5);
    }

    private static void hears() {
        TunnelHearsay x = headsAt(soft(), 56, 7);
        x.delay(0);
        x.engineer(10, 0);
        x.years(14);
        // A surveyor goes along y, then along x: up from 56 to 0, and on to 7.
        int[] path = {56, 48, 40, 32, 24, 16, 8, 0, 1, 2, 3, 4, 5, 6, 7};
        for (int delay = 0; delay <= 9; delay++) {
            x.delay(delay);
            due("by " + delay, x.ofHead(1, 5), path[14 - delay]);
        }
        x.years(9);
        due("nine years behind that, by 9", x.ofHead(1, 5), 7);
        x.years(1);
        due("ten years behind that, by 9", x.ofHead(1, 5), 7);
    }

    private static void hearsAheadOfAll() {
        TunnelHearsay x = soft();
        x.engineer(0, 0);
        for (int year = 0; year <= 3; year++) {
            x.delay(year);
            due("just as long ago as there is", x.ofHead(1, 5), 24);
            x.delay(9);
            due("longer ago", x.ofHead(1, 5), 24);
            x.years(1);
        }
        x.delay(3);
        due("a year behind the first", x.ofHead(1, 5), 25);
    }
}
