/** The edges that the document names of A YEAR and of years by draws: promises 16 and 17. */
public final class YearEdgesTest extends Asking {
    public static void main(String[] args) {
        says("(1) both HEARKEN, by all as the YEAR begins"); bothHearkenFirst();
        says("(2) If they haven't MET ahead of that"); metAhead();
        says("HEAD 0, then 1, goes"); firstZero();
        says("if the WAY is none: nothing"); wayIsNone();
        says("If that CELL is DUG, it is AT it, WORK 0, LAST that WAY"); intoWhatIsDug();
        says("Else WORK is more by what the other TEXT gives"); workIsMore();
        says("DIGS, NAMES p POWER, r ROCK of the CELL, w WORK; held within 0 to 20"); heldDigs();
        says("(99 at most)"); workAtMost();
        says("if it is ROCK of that CELL or more then: that is DUG, it is AT it, WORK 0, LAST that WAY"); rockOrMore();
        says("WORK stays, where another CELL is dug at then"); workGoesOn();
        says("YEAR is 1 more"); oneMore();
        says("years: n (1 to 60) YEARS: FAR of both HEADS then"); yearsByNumber();
        says("years: STATE: YEAR would be above 9999"); yearsEnd();
        says("loose: n (1 to 40) YEARS by draws"); looseByNumber();
        says("loose: STATE: YEAR would be above 9999"); looseEnd();
        says("z (1 at first); each makes it z * 1103515245 + 12345 (an int), and gives z >>> 8"); draws();
        says("the CELL that is its rest by 64; ROCK of that is its rest by 10; then a YEAR"); drawAheadOfYear();
        end();
    }

    private static TunnelHearsay two(int first, int second) {
        TunnelHearsay x = headsAt(soft(), first, second);
        x.delay(0);
        x.engineer(0, 0);
        x.engineer(0, 1);
        return x;
    }

    private static void bothHearkenFirst() {
        // 0 is heard 2 off by y, 1 by x, as the year begins: 1 goes by y, though it would go by x behind 0's going.
        TunnelHearsay x = two(0, 17);
        x.years(1);
        due("0 goes down", x.ofHead(0, 0), 8);
        due("1 goes up", x.ofHead(1, 0), 9);
        TunnelHearsay y = two(27, 28);
        due("past one another", y.years(1), 1);
        due("0 is where 1 was", y.ofHead(0, 0), 28);
        due("1 is where 0 was", y.ofHead(1, 0), 27);
    }

    private static void metAhead() {
        TunnelHearsay x = two(27, 29);
        due("to one cell", x.years(1), 0);
        x.delay(1);
        due("0 hears the other one where it was", x.ofHead(0, 5), 29);
        due("and hearkens to that", x.ofHead(0, 4), 1);
        x.head(0, 2, 5);
        due("but they have met", x.years(1), 0);
        due("0 stays", x.ofHead(0, 0), 28);
        due("its work stays", x.ofHead(0, 2), 5);
        due("its last way stays", x.ofHead(0, 3), 1);
        due("the year goes by", x.count(1), 2);
        x.head(1, 0, 30);
        due("once they are apart, they go again", x.years(1), 0);
        TunnelHearsay y = headsAt(soft(), 27, 28);
        y.engineer(0, 0);
        due("one comes to the other", y.years(1), 0);
        // 0 comes to where 1 stands: they have met behind that alone, so 1 goes in that year still.
        TunnelHearsay z = two(27, 28);
        z.become(1, 20);
        due("1 goes away as 0 comes", z.years(1), 1);
        due("1 is at 29", z.ofHead(1, 0), 29);
    }

    private static void firstZero() {
        TunnelHearsay x = headsAt(hard(), 27, 29);
        x.engineer(0, 0);
        x.engineer(0, 1);
        x.head(0, 1, 9);
        x.head(1, 1, 0);
        due("1 comes to what 0 has dug", x.years(1), 0);
        due("1 is at 28", x.ofHead(1, 0), 28);
        TunnelHearsay y = headsAt(hard(), 27, 29);
        y.engineer(0, 0);
        y.engineer(0, 1);
        y.head(0, 1, 0);
        y.head(1, 1, 9);
        due("0 doesn't come to what 1 digs", y.years(1), 1);
        due("0 is at 27", y.ofHead(0, 0), 27);
        due("1 is at 28, too", y.ofHead(1, 0), 28);
    }

    private static void wayIsNone() {
        TunnelHearsay x = soft();
        x.head(0, 2, 6);
        x.engineer(60, 0);
        due("a clerk in year 0", x.years(1), 7);
        due("at", x.ofHead(0, 0), 24);
        due("work", x.ofHead(0, 2), 6);
        due("last", x.ofHead(0, 3), 4);
        due("a clerk in year 1", x.years(1), 6);
        due("work then", x.ofHead(0, 2), 0);
        due("last then", x.ofHead(0, 3), 1);
        x.head(0, 2, 6);
        due("a clerk in year 2", x.years(1), 6);
        due("work stays", x.ofHead(0, 2), 6);
        due("last stays", x.ofHead(0, 3), 1);
    }

    private static void intoWhatIsDug() {
        TunnelHearsay x = hard();
        digAll(x, 25);
        x.engineer(0, 0);
        x.head(0, 1, 0);
        x.head(0, 2, 99);
        x.years(1);
        due("at", x.ofHead(0, 0), 25);
        due("work", x.ofHead(0, 2), 0);
        due("last", x.ofHead(0, 3), 1);
        due("rock is as it was", x.ofCell(25, 0), 9);
        due("nothing more is dug", x.count(4), 3);
        x.years(1);
        due("26 isn't dug", x.ofHead(0, 0), 25);
    }

    private static void workIsMore() {
        TunnelHearsay x = hard();
        x.engineer(0, 0);
        x.head(0, 1, 0);
        x.years(1);
        due("by 0", x.ofHead(0, 2), 0);
        x.head(0, 1, 1);
        x.years(1);
        due("by 1", x.ofHead(0, 2), 1);
        x.years(7);
        due("by 7 more", x.ofHead(0, 2), 8);
        due("not there yet", x.ofHead(0, 0), 24);
        due("the other one has its own", x.ofHead(1, 2), 0);
        x.years(1);
        due("there", x.ofHead(0, 0), 25);
        due("from anew", x.ofHead(0, 2), 0);
    }

    private static void digs(String text, int power, int rock, int work, int behind) {
        TunnelHearsay x = fresh();
        x.rock(25, rock);
        x.engineer(0, 0);
        give(x, 1, text);
        x.head(0, 1, power);
        x.head(0, 2, work);
        x.years(1);
        due(text + " of " + power + ", " + rock + ", " + work, x.ofHead(0, 0) == 25 ? -1 : x.ofHead(0, 2), behind);
    }

    private static void heldDigs() {
        digs("p-9", 8, 9, 5, 5);
        digs("p-9", 9, 9, 5, 5);
        digs("p-9", 10, 9, 5, 6);
        digs("r-1", 0, 9, 0, 8);
        digs("r-1", 0, 1, 0, 0);
        digs("r", 0, 9, 0, -1);
        digs("w", 0, 9, 4, 8);
        digs("w", 0, 9, 5, -1);
        digs("0-9999", 20, 9, 8, 8);
        digs("9999", 0, 9, 0, -1);
        // Held at 20, each of both years is less than 24: but rock is 9 at most, so one year is enough.
        digs("20", 0, 9, 0, -1);
        TunnelHearsay x = hard();
        x.engineer(0, 0);
        x.head(0, 1, 20);
        due("without a text p", x.years(1), 6);
    }

    private static void workAtMost() {
        TunnelHearsay x = hard();
        x.engineer(0, 0);
        x.head(0, 1, 20);
        x.head(0, 2, 99);
        due("99 and 20 more digs 9", x.years(1), 6);
        due("work", x.ofHead(0, 2), 0);
        digs("w*9999", 0, 9, 99, -1);
        digs("0", 0, 9, 99, -1);
    }

    private static void rockOrMore() {
        digs("0", 5, 0, 0, -1);
        digs("0", 5, 1, 0, 0);
        digs("1", 5, 1, 0, -1);
        digs("8", 5, 9, 0, 8);
        digs("9", 5, 9, 0, -1);
        digs("10", 5, 9, 0, -1);
        digs("4", 5, 9, 4, 8);
        digs("5", 5, 9, 4, -1);
        TunnelHearsay x = hard();
        x.engineer(0, 0);
        x.head(0, 1, 9);
        due("apart", x.years(1), 6);
        due("dug", x.ofCell(25, 1), 1);
        due("three are", x.count(4), 3);
        due("at", x.ofHead(0, 0), 25);
        due("work", x.ofHead(0, 2), 0);
        due("last", x.ofHead(0, 3), 1);
        due("its rock stays", x.ofCell(25, 0), 9);
    }

    private static void workGoesOn() {
        TunnelHearsay x = hard();
        x.engineer(0, 0);
        x.head(0, 1, 4);
        x.years(1);
        due("4 of 9 at 25", x.ofHead(0, 2), 4);
        x.head(1, 0, 56);
        x.years(1);
        due("8 of 9 at 32", x.ofHead(0, 2), 8);
        x.years(1);
        due("at 32", x.ofHead(0, 0), 32);
        x.head(0, 2, 8);
        x.head(0, 0, 0);
        due("head() leaves it", x.ofHead(0, 2), 8);
    }

    private static void oneMore() {
        TunnelHearsay x = fresh();
        due("nobody there", x.years(1), 7);
        due("1", x.count(1), 1);
        x.loose(1);
        due("2", x.count(1), 2);
        headsAt(x, 5, 5);
        x.years(60);
        due("62, though they have met", x.count(1), 62);
    }

    private static void yearsByNumber() {
        TunnelHearsay x = soft();
        x.engineer(0, 0);
        due("1", x.years(1), 6);
        due("2", x.years(2), 4);
        due("0", x.years(0), BEYOND);
        due("-1", x.years(-1), BEYOND);
        due("61", x.years(61), BEYOND);
        due("3 of them", x.count(1), 3);
        due("4 apart", x.count(3), 4);
        due("60", x.years(60), 0);
        due("63 of them", x.count(1), 63);
    }

    private static void yearsEnd() {
        TunnelHearsay x = fresh();
        pass(x, 9939);
        x.image();
        due("to 9999 at once", x.years(60), 7);
        due("9999", x.count(1), 9999);
        due("one more", x.years(1), STATE);
        due("60 more", x.years(60), STATE);
        x.restore();
        x.years(1);
        due("from 9940 on, 60", x.years(60), STATE);
        due("9940 still", x.count(1), 9940);
        due("from 9940 on, 59", x.years(59), 7);
        due("61 at the end", x.years(61), BEYOND);
        due("0 at the end", x.years(0), BEYOND);
    }

    private static void looseByNumber() {
        TunnelHearsay x = soft();
        x.engineer(0, 0);
        due("1", x.loose(1), 6);
        due("0", x.loose(0), BEYOND);
        due("-1", x.loose(-1), BEYOND);
        due("41", x.loose(41), BEYOND);
        due("one of them", x.count(1), 1);
        x.loose(40);
        due("41 of them", x.count(1), 41);
    }

    private static void looseEnd() {
        TunnelHearsay x = fresh();
        pass(x, 9959);
        x.image();
        due("to 9999 at once", x.loose(40), 7);
        due("9999", x.count(1), 9999);
        int z = x.count(10);
        int rocks = x.count(5);
        due("one more", x.loose(1), STATE);
        due("40 more", x.loose(40), STATE);
        due("41 more", x.loose(41), BEYOND);
        due("z stays", x.count(10), z);
        due("rock stays", x.count(5), rocks);
        x.restore();
        x.years(1);
        due("from 9960 on, 40", x.loose(40), STATE);
        due("z is as at first", x.count(10), 1);
        due("from 9960 on, 39", x.loose(39), 7);
    }

    private static void draws() {
        TunnelHearsay x = fresh();
        due("at first", x.count(10), 1);
        // Two draws from 1: 1103527590, then 1103527590 * 1103515245 + 12345 as an int.
        x.loose(1);
        due("behind a year", x.count(10), 1103527590 * 1103515245 + 12345);
        for (int seed : new int[] {0, 1, -1, MIN, MAX, 5}) {
            x.seed(seed);
            long z = seed;
            int[] rock = new int[64];
            for (int cell = 0; cell < 64; cell++) {
                rock[cell] = cell == 63 ? 9 : -1;
            }
            for (int i = 0; i < 5; i++) {
                z = (z * 1103515245L + 12345L) & 0xFFFFFFFFL;
                int cell = (int) ((z >> 8) % 64);
                z = (z * 1103515245L + 12345L) & 0xFFFFFFFFL;
                rock[cell] = (int) ((z >> 8) % 10);
            }
            x.rock(63, 9);
            x.loose(5);
            due("z from " + seed, x.count(10), (int) z);
            for (int cell = 0; cell < 64; cell++) {
                if (rock[cell] >= 0) {
                    due("rock of " + cell + " from " + seed, x.ofCell(cell, 0), rock[cell]);
                }
            }
        }
    }

    private static void drawAheadOfYear() {
        // From 1 the first draw gives 4310654 (by 64: 62), the second 9862832 (by 10: 2).
        TunnelHearsay x = headsAt(hard(), 61, 63);
        x.engineer(0, 0);
        x.head(0, 1, 2);
        due("rock 2 is dug by 2 in that year", x.loose(1), 1);
        due("62 has rock 2", x.ofCell(62, 0), 2);
        due("0 is at 62", x.ofHead(0, 0), 62);
        TunnelHearsay y = headsAt(hard(), 61, 63);
        y.engineer(0, 0);
        y.head(0, 1, 1);
        due("rock 2 isn't dug by 1", y.loose(1), 2);
        TunnelHearsay z = hard();
        z.head(0, 0, 62);
        z.loose(1);
        due("what is dug has rock, too", z.ofCell(62, 0), 2);
        due("and stays dug", z.ofCell(62, 1), 1);
    }
}
