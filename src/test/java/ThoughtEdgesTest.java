/** The edges that the document names of what would be: terms 3, promises 18 to 30. A test for each sentence. */
public final class ThoughtEdgesTest extends Asking {
    public static void main(String[] args) {
        says("(All this is only thought, YEAR beyond 9999, too.)"); beyondTheLastYear();
        says("BEHIND n YEARS (0 to 60)"); behind();
        says("MEETS: behind how many YEARS (0 to 60) they have MET first"); meets();
        says("meets: NONE: not by 60"); meetsTooLate();
        says("APART by n (0 to 60)"); apart();
        says("DELAY by n (0 to 60): that (0 to 9) with which APART by n is least"); delayFor();
        says("DELAY by n: 13 is less than 14"); delayForFarApart();
        says("DELAY by n: of several the least"); delayForLeast();
        says("POWER for a HEAD, n (0 to 60), v (0 to 14): the least (0 to 20)"); powerFor();
        says("powerFor: NONE: with none"); powerForNone();
        says("NEEDLESS by n (0 to 60): without each of whom alone APART by n is no more"); needless();
        says("NEEDLESS: how many there are isn't asked"); needlessAlone();
        says("HEARD: by which CELLS (0 to 63) that is so: how many; the least"); heard();
        says("HEARD: behind 1, 2, .. YEARS, at most 40 numbers, or none"); heardByLength();
        says("HEARD: were the other one AT that now, as by head()"); heardAsByHead();
        says("heard: NONE: (what 1) there is none"); heardNone();
        says("WHICH: the KINDS (0 to 6; m as it is) by which, were one of that, as a set"); which();
        says("WHICH: behind 1, 2, .. YEARS, at most 40 numbers, or none"); whichByLength();
        says("JOIN: DUG CELLS alone (both must be, too)"); joinEnds();
        says("JOIN: the least ROCK together"); joinLeast();
        says("JOIN: by WAYS: nothing wraps around"); joinBorders();
        says("STEPS: the fewest WAYS, through DUG CELLS alone (both, too)"); steps();
        says("STEPS: by WAYS: nothing wraps around"); stepsBorders();
        says("HAND: n (0 to 200)"); handByNumber();
        says("HAND: of the WAY to the left of his (0 is left of 1, 3 of 0), his own, the next one, the opposite one"); handOrder();
        says("HAND: none: he stays"); handStays();
        says("HAND: by WAYS: nothing wraps around"); handBorders();
        says("hand: STATE: the CELL isn't DUG"); handInRock();
        says("PARTS: all of one hanging together by WAYS"); parts();
        says("ODDS: a fraction in lowest terms (0 is 0 by 1)"); odds();
        says("ODDS by n (0 to 30), v (0 to 14)"); oddsByNumber();
        end();
    }

    // ---- years gone ahead

    private static void beyondTheLastYear() {
        TunnelHearsay x = headsAt(still(), 24, 31);
        pass(x, 9999);
        for (int cell = 25; cell < 31; cell++) {
            x.dig(cell, 1);
        }
        x.engineer(0, 0);
        due("behind 60", x.then(60, 0, 0), 31);
        due("meets", x.meets(), 7);
        due("apart(60)", x.apart(60), 0);
        due("apart(1)", x.apart(1), 6);
        due("delayFor(60)", x.delayFor(60), 0);
        due("powerFor(0, 60, 0)", x.powerFor(0, 60, 0), 0);
        due("needless(60)", x.needless(60), 0);
        due("odds(30, 0, 0)", x.odds(30, 0, 0), 1);
        write(x, 0, 8, 25, 26, 27, 28, 29, 30, 31, 31);
        due("heard", x.heard(0, 0, 1), 31);
        // The years 9999, 10000, 10001: m 0 turns a dreamer in 10000; a clerk is still in 10000, 10002.
        due("which", x.which(0, 0), 1 | 2 | 8 | 16);
        x.tell(6);
        x.tell(5);
        due("check", x.check(), 0);
        due("the year stays", x.count(1), 9999);
        // A foreman of m 9 in 9999 goes on, and turns in 10000, whose rest by 10 is 0; y is 0 then, too.
        x.dig(33, 1);
        x.become(0, 39);
        due("9999", x.then(1, 0, 0), 25);
        due("10000", x.then(2, 0, 0), 33);
        x.become(0, 0);
        give(x, 0, "y=7");
        due("y is 7 in 9999", x.then(1, 0, 0), 25);
        due("y is 0 in 10000", x.then(2, 0, 0), 25);
        due("y is 7 in 10007", x.then(9, 0, 0), 26);
    }

    private static void behind() {
        TunnelHearsay x = hard();
        x.engineer(0, 0);
        x.engineer(0, 1);
        x.head(0, 2, 7);
        x.head(0, 1, 1);
        x.head(1, 1, 0);
        due("0: at", x.then(0, 0, 0), 24);
        due("0: work", x.then(0, 0, 1), 7);
        due("1: work", x.then(1, 0, 1), 8);
        due("2: at", x.then(2, 0, 0), 25);
        due("2: work", x.then(2, 0, 1), 0);
        due("47: at: 2 years for 25, 9 for each of five more", x.then(47, 0, 0), 30);
        due("60: at: they have met", x.then(60, 0, 0), 30);
        due("46: at", x.then(46, 0, 0), 29);
        due("46: work", x.then(46, 0, 1), 8);
        // Head 1 has no power; as 0 comes to 30, that is dug for it, too.
        due("46: head 1", x.then(46, 1, 0), 31);
        due("47: head 1", x.then(47, 1, 0), 30);
        due("60: head 1", x.then(60, 1, 0), 30);
        due("61", x.then(61, 0, 0), BEYOND);
        due("-1", x.then(-1, 0, 0), BEYOND);
        due("head 2", x.then(0, 2, 0), BEYOND);
        due("what 2", x.then(0, 0, 2), BEYOND);
        due("now is as it was", x.ofHead(0, 2), 7);
    }

    /** Head 0, of power 1, comes to where the other one stands behind so many years (31 to 61). */
    private static TunnelHearsay ahead(int years) {
        TunnelHearsay x = headsAt(hard(), 24, 31);
        digAll(x, 25, 26, 27);
        x.engineer(0, 0);
        x.head(0, 1, 1);
        // 3 years through what is dug, 9 each for 28, 29, 30, and one for 31: 31 in all.
        int more = years - 31;
        for (int cell = 25; cell <= 27 && more > 0; cell++) {
            x.dig(cell, 0);
            x.rock(cell, Math.min(9, more + 1));
            more -= Math.min(9, more + 1) - 1;
        }
        if (more > 0) {
            x.head(1, 0, 39);
            x.dig(31, 0);
            x.rock(31, more);
        }
        return x;
    }

    private static void meets() {
        due("now", headsAt(fresh(), 9, 9).meets(), 0);
        TunnelHearsay x = headsAt(soft(), 27, 28);
        x.engineer(0, 0);
        due("by 1", x.meets(), 1);
        due("by 31", ahead(31).meets(), 31);
        due("by 60", ahead(60).meets(), 60);
        // Both go past one another in the first year, and again: they never meet, being 1 apart.
        TunnelHearsay y = headsAt(soft(), 27, 28);
        y.delay(0);
        y.engineer(0, 0);
        y.engineer(0, 1);
        due("past one another for ever", y.meets(), NONE);
        due("1 apart", y.apart(60), 1);
        x.head(1, 0, 27);
        due("first: they stay together behind it", x.meets(), 0);
    }

    private static void meetsTooLate() {
        due("by 61", ahead(61).meets(), NONE);
        due("1 apart by 60", ahead(61).apart(60), 1);
        TunnelHearsay x = fresh();
        due("nobody", x.meets(), NONE);
        due("counted", x.told(2), 1);
    }

    private static void apart() {
        TunnelHearsay x = headsAt(soft(), 0, 63);
        due("0: 14", x.apart(0), 14);
        due("60, nobody there: 14", x.apart(60), 14);
        x.engineer(0, 0);
        for (int n : new int[] {0, 1, 13, 14, 15, 59, 60}) {
            due("by " + n, x.apart(n), Math.max(0, 14 - n));
        }
        due("61", x.apart(61), BEYOND);
        due("-1", x.apart(-1), BEYOND);
        due("14 now", x.count(3), 14);
    }

    // ---- delay, power, who is needless

    /**
     * Head 1 went along the top from 0 to 7, a cell a year, and has stood there for some years; 0 is in its way now,
     * at 6, with one engineer. By a delay of d it is heard at 7 as long as d is the wait at most; at 6 by one more.
     */
    private static TunnelHearsay walked(int wait) {
        TunnelHearsay x = headsAt(soft(), 7, 0);
        x.delay(0);
        x.engineer(0, 1);
        x.years(7);
        pass(x, wait);
        x.change(0, 0);
        x.head(0, 0, 6);
        return x;
    }

    private static void delayFor() {
        for (int wait = 0; wait <= 7; wait++) {
            TunnelHearsay x = walked(wait);
            // A dreamer who turns comes nearer by those delays alone by which it is heard at 5 or less.
            x.become(0, 20 + x.count(1) % 5);
            due("wait " + wait, x.delayFor(1), wait + 2);
        }
        TunnelHearsay y = walked(8);
        y.become(0, 20 + y.count(1) % 5);
        due("by 9 it stays, by 0 to 8 it goes away", y.delayFor(1), 9);
        due("delay is as it was", y.count(2), 0);
        due("-1", y.delayFor(-1), BEYOND);
        due("61", y.delayFor(61), BEYOND);
    }

    /** Head 1 went along the last row from 63 to 56; a foreman at 7 turns past the border by 0 alone. */
    private static void delayForFarApart() {
        TunnelHearsay x = headsAt(soft(), 56, 63);
        x.delay(0);
        x.engineer(0, 1);
        x.years(7);
        x.head(0, 0, 7);
        x.change(0, 0);
        x.become(0, 39);
        due("14 apart", x.apart(1), 14);
        due("13 by 1", x.delayFor(1), 1);
    }

    private static void delayForLeast() {
        TunnelHearsay x = walked(4);
        due("by 0 to 4", x.delayFor(1), 0);
        due("by all, none having gone", x.delayFor(0), 0);
        x.delay(9);
        due("by the least, not by its own", x.delayFor(0), 0);
        due("9 it stays", x.count(2), 9);
        due("14 apart by all", headsAt(fresh(), 0, 63).delayFor(60), 0);
        due("0 apart by all", headsAt(fresh(), 63, 63).delayFor(60), 0);
    }

    private static void powerFor() {
        TunnelHearsay x = hard();
        x.engineer(0, 0);
        due("14 by 0 years: none", x.powerFor(0, 0, 14), 0);
        due("7 by 0 years: none", x.powerFor(0, 0, 7), 0);
        due("7 by 60 years: none", x.powerFor(0, 60, 7), 0);
        due("6 by 60 years: 1", x.powerFor(0, 60, 6), 1);
        due("0 by 60 years: 1 (6 times 9, and 1)", x.powerFor(0, 60, 0), 1);
        due("0 by 55 years: 1", x.powerFor(0, 55, 0), 1);
        due("0 by 54 years: 2", x.powerFor(0, 54, 0), 2);
        due("0 by 7 years: 9", x.powerFor(0, 7, 0), 9);
        due("0 by 6 years", x.powerFor(0, 6, 0), NONE);
        give(x, 1, "p/20*9");
        due("20", x.powerFor(0, 1, 6), 20);
        give(x, 1, "(p=0)*9");
        due("0 alone", x.powerFor(0, 1, 6), 0);
        due("power is as it was", x.ofHead(0, 1), 5);
        TunnelHearsay y = headsAt(fresh(), 0, 63);
        due("14 apart, 14", y.powerFor(1, 60, 14), 0);
        due("14 apart, 13", y.powerFor(1, 60, 13), NONE);
    }

    private static void powerForNone() {
        TunnelHearsay x = hard();
        x.engineer(0, 0);
        give(x, 1, "p/21*9");
        due("21 would be", x.powerFor(0, 60, 6), NONE);
        due("the other one's power", x.powerFor(1, 60, 6), NONE);
        due("v 15", x.powerFor(0, 60, 15), BEYOND);
        due("v -1", x.powerFor(0, 60, -1), BEYOND);
        due("n 61", x.powerFor(0, 61, 7), BEYOND);
        due("n -1", x.powerFor(0, -1, 7), BEYOND);
        due("counted as none", x.told(2), 2);
    }

    private static void needless() {
        TunnelHearsay x = soft();
        x.engineer(0, 0);
        x.engineer(20, 0);
        due("without 0 the dreamer would be alone", x.needless(1), 2);
        due("by 0 years", x.needless(0), 3);
        x.engineer(0, 0);
        due("no more, though no less", x.needless(1), 7);
        x.become(0, 20);
        x.become(2, 21);
        // 0 and 1 dream away by 3, past the border; 2 dreams by 1: 2 against 1. Without 0 or 1 it is even: the least, 1.
        due("less", x.needless(1), 7);
        due("-1", x.needless(-1), BEYOND);
        due("61", x.needless(61), BEYOND);
        TunnelHearsay y = soft();
        for (int i = 0; i < 8; i++) {
            y.engineer(i == 7 ? 19 : 0, i == 7 ? 1 : 0);
        }
        due("the last one, too", y.needless(0), 255);
        due("by 7 all have met without any one", y.needless(7), 255);
        due("by 2 the last one is needed", y.needless(2), 127);
        due("by 60", y.needless(60), 255);
    }

    private static void needlessAlone() {
        TunnelHearsay x = soft();
        due("nobody", x.needless(60), 0);
        x.engineer(0, 0);
        due("the only one, needed", x.needless(60), 0);
        x.become(0, 60);
        due("the only one, who stands still in year 0", x.needless(1), 1);
        x.head(0, 0, 27);
        x.become(0, 20);
        due("the only one, who goes away", x.needless(1), 1);
        due("one there still", x.count(0), 1);
    }

    // ---- where the other was, what kind one is

    private static void heard() {
        TunnelHearsay x = headsAt(hard(), 62, 31);
        x.engineer(0, 0);
        x.head(0, 1, 0);
        write(x, 0, 8, 63);
        due("by 63 alone, that is dug then: how many", x.heard(0, 0, 0), 1);
        due("the least", x.heard(0, 0, 1), 63);
        x.head(0, 0, 1);
        write(x, 0, 16, 0);
        due("by 0 alone: how many", x.heard(0, 0, 0), 1);
        due("the least is 0", x.heard(0, 0, 1), 0);
        x.sheet(3, 32, 0);
        due("by all", x.heard(3, 0, 0), 64);
        due("the least of all", x.heard(3, 0, 1), 0);
        due("of the other head", x.heard(3, 1, 0), 64);
    }

    private static void heardByLength() {
        TunnelHearsay x = fresh();
        x.sheet(0, 8, 0);
        due("none", x.heard(0, 0, 0), 64);
        x.sheet(0, 8, 40);
        for (int i = 0; i < 40; i++) {
            x.put(0, i, 24);
        }
        due("40 years in one cell", x.heard(0, 0, 0), 64);
        x.put(0, 39, 25);
        due("but for the last", x.heard(0, 0, 0), 0);
        x.put(0, 39, 24);
        x.put(0, 0, 25);
        due("but for the first", x.heard(0, 0, 0), 0);
    }

    private static void heardAsByHead() {
        TunnelHearsay x = soft();
        x.engineer(0, 0);
        x.engineer(0, 1);
        x.years(2);
        x.delay(9);
        write(x, 0, 8, 25);
        // From 26 to 25: all cells to the left, |y - 3| no more than how many x; there all years ago, so by any delay.
        int left = 0;
        for (int cell = 0; cell < 64; cell++) {
            left += cell % 8 < 2 && Math.abs(cell / 8 - 3) <= 2 - cell % 8 ? 1 : 0;
        }
        due("by those to the left", x.heard(0, 0, 0), left);
        due("the least of those", x.heard(0, 0, 1), 8);
        due("the other one is where it was", x.ofHead(1, 0), 29);
        due("and was where it was", x.ofHead(0, 5), 31);
        due("what is dug stays", x.count(4), 6);
        // Put to where the head is itself: they have met, and it stays.
        write(x, 0, 8, 26, 26, 26);
        due("by its own cell", x.heard(0, 0, 1), 26);
    }

    private static void heardNone() {
        TunnelHearsay x = fresh();
        write(x, 0, 8, 25);
        due("how many", x.heard(0, 0, 0), 0);
        due("that is no error", x.told(2), 0);
        due("the least", x.heard(0, 0, 1), NONE);
        due("that is one", x.told(2), 1);
        write(x, 0, 8, 24 + 64);
        due("no cell has such a number", x.heard(0, 0, 0), 0);
        write(x, 0, 32, 24 - 64);
        due("nor one below 0", x.heard(0, 0, 0), 0);
        write(x, 0, 32, 24 + 256);
        due("all 32 bits are looked at", x.heard(0, 0, 0), 0);
        write(x, 0, 8, 24 + 256);
        due("of 8 bits the lowest are kept", x.heard(0, 0, 0), 64);
    }

    private static void which() {
        TunnelHearsay x = headsAt(soft(), 27, 31);
        x.engineer(0, 0);
        write(x, 0, 8, 28);
        due("all but dreamer and clerk", x.which(0, 0), 127 - 4 - 64);
        write(x, 0, 8, 26);
        due("a dreamer alone", x.which(0, 0), 4);
        write(x, 0, 8, 27, 28);
        due("a clerk alone", x.which(0, 0), 64);
        write(x, 0, 8, 63);
        due("none", x.which(0, 0), 0);
        x.become(0, 6);
        write(x, 0, 8, 28);
        // m 6: a foreman turns, a dreamer of rest 1 doesn't in year 0, an echo 4 off hears nothing.
        due("m as it is", x.which(0, 0), 1 | 2 | 4 | 16);
        due("kind as it was", x.ofEngineer(0, 0), 0);
        x.engineer(0, 1);
        write(x, 0, 8, 30);
        due("of one's own side", x.which(0, 1), 127 - 4 - 64);
        due("not of the other", x.which(0, 0), 0);
        due("one that isn't there", x.which(0, 2), BEYOND);
    }

    private static void whichByLength() {
        TunnelHearsay x = headsAt(soft(), 27, 27);
        x.engineer(0, 0);
        x.sheet(0, 32, 0);
        due("none", x.which(0, 0), 127);
        x.sheet(0, 32, 40);
        due("40 that aren't so", x.which(0, 0), 0);
        for (int i = 0; i < 40; i++) {
            x.put(0, i, 27);
        }
        due("40 years in one cell", x.which(0, 0), 127);
        x.put(0, 39, 28);
        due("but for the last", x.which(0, 0), 0);
    }

    // ---- ways through the hill

    private static void joinEnds() {
        TunnelHearsay x = hard();
        due("itself, dug", x.join(24, 24), 0);
        due("itself, rock", x.join(63, 63), 9);
        due("one is dug", x.join(24, 25), 9);
        due("the other one is", x.join(25, 24), 9);
        due("neither is", x.join(0, 1), 18);
        x.dig(25, 1);
        due("both are", x.join(24, 25), 0);
        TunnelHearsay y = soft();
        due("rock of 0", y.join(0, 63), 0);
        y.rock(0, 4);
        y.rock(63, 3);
        due("both ends alone", y.join(0, 63), 7);
        due("both ends, the other way", y.join(63, 0), 7);
    }

    private static void joinLeast() {
        TunnelHearsay x = headsAt(hard(), 0, 0);
        x.dig(24, 0);
        x.dig(31, 0);
        due("corner to corner: 14 cells of 9", x.join(0, 63), 126);
        due("the other corners, through 0, which is dug", x.join(7, 56), 126);
        due("63 to 7: 8 cells of 9", x.join(63, 7), 72);
        // Through the snake of dug cells there is no rock, however long it is.
        snake(x);
        due("the long way without rock", x.join(0, 56), 0);
        x.dig(15, 0);
        x.rock(15, 9);
        due("9 at the turn, or 9 straight down", x.join(0, 56), 9);
        x.rock(8, 8);
        due("8 straight down", x.join(0, 56), 8);
    }

    private static void joinBorders() {
        TunnelHearsay x = headsAt(hard(), 7, 8);
        x.dig(24, 0);
        x.dig(31, 0);
        due("7 and 8", x.join(7, 8), 63);
        headsAt(x, 0, 56);
        x.dig(7, 0);
        x.dig(8, 0);
        due("0 and 56", x.join(0, 56), 54);
    }

    /** Rows 0, 2, 4, 6 and a cell between each two, right and left by turns; 56 behind all: 36 cells in a row. */
    private static void snake(TunnelHearsay x) {
        for (int row = 0; row < 8; row += 2) {
            for (int cell = 8 * row; cell < 8 * row + 8; cell++) {
                x.dig(cell, 1);
            }
        }
        digAll(x, 15, 24, 47, 56);
    }

    private static void steps() {
        TunnelHearsay x = headsAt(fresh(), 0, 0);
        x.dig(24, 0);
        x.dig(31, 0);
        due("itself, dug", x.steps(0, 0), 0);
        due("itself, rock", x.steps(1, 1), NONE);
        due("to rock", x.steps(0, 1), NONE);
        due("from rock", x.steps(1, 0), NONE);
        x.dig(63, 1);
        due("both dug, nothing between", x.steps(0, 63), NONE);
        x.dig(63, 0);
        snake(x);
        due("through it all", x.steps(0, 56), 35);
        due("and back", x.steps(56, 0), 35);
        x.dig(8, 1);
        due("the fewest", x.steps(0, 56), 35 - 14);
        x.dig(56, 0);
        due("to rock again", x.steps(0, 56), NONE);
        for (int cell = 0; cell < 64; cell++) {
            x.dig(cell, 1);
        }
        due("corner to corner", x.steps(0, 63), 14);
        due("the other corners", x.steps(56, 7), 14);
    }

    private static void stepsBorders() {
        TunnelHearsay x = headsAt(fresh(), 7, 8);
        due("7 and 8", x.steps(7, 8), NONE);
        headsAt(x, 0, 56);
        due("0 and 56", x.steps(0, 56), NONE);
        headsAt(x, 31, 32);
        due("31 and 32", x.steps(31, 32), NONE);
        due("aslant", headsAt(fresh(), 27, 36).steps(27, 36), NONE);
    }

    private static void handByNumber() {
        TunnelHearsay x = fresh();
        for (int cell = 0; cell < 64; cell++) {
            x.dig(cell, 1);
        }
        due("0 times", x.hand(0, 1, 0), 0);
        due("once", x.hand(0, 1, 1), 1);
        due("7 times", x.hand(0, 1, 7), 7);
        due("8 times", x.hand(0, 1, 8), 15);
        due("28 times: round the hill", x.hand(0, 1, 28), 0);
        due("196 times: seven times round", x.hand(0, 1, 196), 0);
        due("200 times", x.hand(0, 1, 200), 4);
        due("201 times", x.hand(0, 1, 201), BEYOND);
        due("-1 times", x.hand(0, 1, -1), BEYOND);
        // Nothing on his left: he goes round and round to the left.
        due("in the open", x.hand(27, 0, 4), 27);
        due("in the open, once", x.hand(27, 0, 1), 26);
        due("in the open, twice", x.hand(27, 0, 2), 34);
        due("in the open, thrice", x.hand(27, 0, 3), 35);
    }

    private static void handOrder() {
        int[] beside = {19, 28, 35, 26};
        for (int way = 0; way < 4; way++) {
            TunnelHearsay x = headsAt(fresh(), 27, 27);
            digAll(x, beside);
            due("left of " + way, x.hand(27, way, 1), beside[(way + 3) % 4]);
            x.dig(beside[(way + 3) % 4], 0);
            due("his own, " + way, x.hand(27, way, 1), beside[way]);
            x.dig(beside[way], 0);
            due("the next one to " + way, x.hand(27, way, 1), beside[(way + 1) % 4]);
            x.dig(beside[(way + 1) % 4], 0);
            due("the opposite one of " + way, x.hand(27, way, 1), beside[(way + 2) % 4]);
            due("and back from there", x.hand(27, way, 2), 27);
            x.dig(beside[(way + 2) % 4], 0);
            due("none", x.hand(27, way, 1), 27);
        }
        // That is his then: he comes to 28 by 1, where 0 is to his left.
        TunnelHearsay y = headsAt(fresh(), 27, 27);
        digAll(y, 28, 20, 36);
        due("by 2 into 28, then left of 1", y.hand(27, 2, 2), 20);
    }

    private static void handStays() {
        TunnelHearsay x = fresh();
        for (int way = 0; way < 4; way++) {
            due("alone by " + way, x.hand(24, way, 200), 24);
            due("alone by " + way + ", once", x.hand(24, way, 1), 24);
        }
        due("by 4", x.hand(24, 4, 1), BEYOND);
        due("by -1", x.hand(24, -1, 1), BEYOND);
    }

    private static void handBorders() {
        TunnelHearsay x = headsAt(fresh(), 7, 8);
        for (int way = 0; way < 4; way++) {
            due("7 by " + way, x.hand(7, way, 3), 7);
            due("8 by " + way, x.hand(8, way, 3), 8);
        }
        headsAt(x, 0, 56);
        x.dig(8, 0);
        for (int way = 0; way < 4; way++) {
            due("0 by " + way, x.hand(0, way, 3), 0);
            due("56 by " + way, x.hand(56, way, 3), 56);
        }
        headsAt(x, 63, 63);
        for (int way = 0; way < 4; way++) {
            due("63 by " + way, x.hand(63, way, 3), 63);
        }
    }

    private static void handInRock() {
        TunnelHearsay x = fresh();
        due("once", x.hand(25, 3, 1), STATE);
        due("0 times", x.hand(25, 3, 0), STATE);
        x.dig(25, 1);
        due("once, dug", x.hand(25, 3, 1), 24);
    }

    private static void parts() {
        TunnelHearsay x = headsAt(fresh(), 0, 0);
        x.dig(24, 0);
        x.dig(31, 0);
        due("one cell", x.parts(), 1);
        x.dig(1, 1);
        due("two that hang together", x.parts(), 1);
        x.dig(63, 1);
        due("two that don't", x.parts(), 2);
        digAll(x, 7, 56);
        x.dig(1, 0);
        due("four corners", x.parts(), 4);
        x.dig(8, 1);
        due("7 and 8 don't hang together", x.parts(), 4);
        x.dig(55, 1);
        due("nor 55 and 56, but 55 and 63", x.parts(), 4);
        TunnelHearsay y = headsAt(fresh(), 0, 63);
        for (int cell = 0; cell < 64; cell++) {
            y.dig(cell, (cell / 8 + cell % 8) % 2 == 0 ? 1 : 0);
        }
        due("every other cell", y.parts(), 32);
        for (int cell = 0; cell < 64; cell++) {
            y.dig(cell, 1);
        }
        due("all", y.parts(), 1);
        TunnelHearsay z = headsAt(fresh(), 0, 0);
        z.dig(24, 0);
        z.dig(31, 0);
        snake(z);
        due("the snake", z.parts(), 1);
        z.dig(15, 0);
        due("cut once", z.parts(), 2);
        z.dig(33, 0);
        due("cut twice", z.parts(), 3);
    }

    // ---- odds

    private static void odds() {
        int[][] lowest = {{0, 1}, {1, 10}, {1, 5}, {3, 10}, {2, 5}, {1, 2}, {3, 5}, {7, 10}, {4, 5}, {9, 10}, {1, 1}};
        for (int good = 1; good <= 10; good++) {
            // Heard at 7 by as many delays, from 6: it comes to 7, where the other one is.
            TunnelHearsay x = walked(good - 1);
            due(good + " of 10, above", x.odds(1, 0, 0), lowest[good][0]);
            due(good + " of 10, below", x.odds(1, 0, 1), lowest[good][1]);
        }
        TunnelHearsay y = headsAt(fresh(), 0, 63);
        due("0 of 10, above", y.odds(30, 13, 0), 0);
        due("0 of 10, below", y.odds(30, 13, 1), 1);
        due("10 of 10, above", y.odds(30, 14, 0), 1);
        due("10 of 10, below", y.odds(30, 14, 1), 1);
    }

    private static void oddsByNumber() {
        TunnelHearsay x = headsAt(hard(), 24, 31);
        x.engineer(0, 0);
        // 24 years for 25 to 28, 6 for what is left of 29: by 30 it is 2 apart, by 29 it is 3.
        x.head(0, 1, 1);
        x.rock(25, 6);
        x.rock(26, 6);
        x.rock(27, 6);
        x.rock(28, 6);
        x.rock(29, 6);
        due("by 30", x.odds(30, 2, 0), 1);
        due("by 29", x.odds(29, 2, 0), 0);
        due("by 29, 3", x.odds(29, 3, 0), 1);
        due("by 0, 7", x.odds(0, 7, 0), 1);
        due("by 0, 6", x.odds(0, 6, 0), 0);
        due("by 0, 0, below", x.odds(0, 0, 1), 1);
        due("n 31", x.odds(31, 0, 0), BEYOND);
        due("n -1", x.odds(-1, 0, 0), BEYOND);
        due("v 15", x.odds(0, 15, 0), BEYOND);
        due("v -1", x.odds(0, -1, 0), BEYOND);
        due("part 2", x.odds(0, 0, 2), BEYOND);
        due("part -1", x.odds(0, 0, -1), BEYOND);
        due("delay is as it was", x.count(2), 2);
    }
}
