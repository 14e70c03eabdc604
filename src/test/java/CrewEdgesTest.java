/** The edges that the document names of ENGINEERS: what they point to, hear, hearken to; promises 8 to 12. */
public final class CrewEdgesTest extends Asking {
    public static void main(String[] args) {
        says("ENGINEERS 0, 1, .. (at most 8)"); atMostEight();
        says("with a number m (0 to 9), of KINDS 0 to 6 (km: 10 times the KIND, and m)"); kindAndNumber();
        says("of a SIDE (0, 1: that HEAD's)"); sides();
        says("ENGINEER: none, if r and d are 0"); nothingOff();
        says("ENGINEER: along x, if r is no less than d, both without sign, else along y: toward it"); engineer();
        says("SURVEYOR: along y toward it, if d isn't 0, else as ENGINEER"); surveyor();
        says("DREAMER: the opposite one, if the rest of YEAR by 5 is that of m by 5"); dreamer();
        says("FOREMAN: the next WAY (0 behind 3)"); nextWay();
        says("FOREMAN: if m is above the rest of YEAR by 10"); foreman();
        says("PLUMB: LAST of its HEAD, if FAR of what is heard is above m"); plumbFar();
        says("PLUMB: and LAST isn't none, else as SURVEYOR"); plumbLast();
        says("ECHO: the opposite of as DREAMER"); echo();
        says("CLERK: none in even YEARS, else as FOREMAN"); clerk();
        says("EARS: ENGINEER 2, DREAMER 1, FOREMAN twice as ENGINEER, CLERK half of as FOREMAN"); plainEars();
        says("EARS: SURVEYOR: as ENGINEER, and a third (cut) of m"); surveyorEars();
        says("EARS: PLUMB: as SURVEYOR, and 1 in even YEARS"); plumbEars();
        says("EARS: ECHO: as DREAMER, if FAR of what is heard is above m, else 0"); echoEars();
        says("EARS: y the rest of YEAR by 8"); restByEight();
        says("EARS: held within 0 to 20"); heldEars();
        says("HEARKENS: of several the least"); least();
        says("HEARKENS: most of what the one TEXT gives together"); together();
        says("HEARKENS: none, if that is 0"); hearkensToNone();
        says("HEARKENS: those of its SIDE"); ofItsSide();
        says("change: what it was"); change();
        says("become: the KIND that it was"); become();
        says("as: it isn't of that KIND, nor of one under it"); as();
        end();
    }

    private static void atMostEight() {
        TunnelHearsay x = fresh();
        due("none", x.count(0), 0);
        for (int i = 0; i < 8; i++) {
            due("one more", x.engineer(69 - i, i / 4), i);
            due("how many", x.count(0), i + 1);
            due("the next one isn't there yet", x.ofEngineer(i + 1, 0), BEYOND);
        }
        due("a ninth", x.engineer(0, 0), FULL);
        due("a tenth", x.engineer(69, 1), FULL);
        due("eight", x.count(0), 8);
        due("the last one is as it was: kind", x.ofEngineer(7, 0), 6);
        due("the last one is as it was: m", x.ofEngineer(7, 1), 2);
        due("the last one is as it was: side", x.ofEngineer(7, 2), 1);
        due("the first one is as it was: m", x.ofEngineer(0, 1), 9);
    }

    private static void kindAndNumber() {
        int[][] rows = {{0, 0, 0}, {9, 0, 9}, {10, 1, 0}, {19, 1, 9}, {20, 2, 0}, {59, 5, 9}, {60, 6, 0}, {69, 6, 9}};
        TunnelHearsay x = fresh();
        x.engineer(35, 0);
        for (int i = 0; i < rows.length; i++) {
            TunnelHearsay y = fresh();
            due("engineer(" + rows[i][0] + ", 0)", y.engineer(rows[i][0], 0), 0);
            due("kind of " + rows[i][0], y.ofEngineer(0, 0), rows[i][1]);
            due("m of " + rows[i][0], y.ofEngineer(0, 1), rows[i][2]);
            x.become(0, rows[i][0]);
            due("kind, become " + rows[i][0], x.ofEngineer(0, 0), rows[i][1]);
            due("m, become " + rows[i][0], x.ofEngineer(0, 1), rows[i][2]);
        }
        due("-1 isn't", x.engineer(-1, 0), BEYOND);
        due("70 isn't", x.engineer(70, 0), BEYOND);
        due("-1 isn't to become", x.become(0, -1), BEYOND);
        due("70 isn't to become", x.become(0, 70), BEYOND);
        due("69 it stays", 10 * x.ofEngineer(0, 0) + x.ofEngineer(0, 1), 69);
    }

    private static void sides() {
        TunnelHearsay x = fresh();
        due("side 0", x.engineer(0, 0), 0);
        due("side 1", x.engineer(0, 1), 1);
        due("side -1", x.engineer(0, -1), BEYOND);
        due("side 2", x.engineer(0, 2), BEYOND);
        due("0 points for head 0", x.ofEngineer(0, 3), 1);
        due("1 points for head 1", x.ofEngineer(1, 3), 3);
        due("of side 1", x.count(6), 1);
    }

    /** Where one of a kind points who hears something at another cell, in a year. */
    private static int points(int km, int from, int to, int year) {
        TunnelHearsay x = headsAt(still(), from, to);
        pass(x, year);
        x.engineer(km, 0);
        return x.ofEngineer(0, 3);
    }

    private static void nothingOff() {
        for (int kind = 0; kind < 7; kind++) {
            for (int year = 0; year < 2; year++) {
                for (int m = 0; m < 10; m += 3) {
                    due("kind " + kind + ", m " + m + ", year " + year, points(10 * kind + m, 63, 63, year), 4);
                }
            }
        }
    }

    private static void engineer() {
        due("r 1, d 0", points(0, 27, 28, 0), 1);
        due("r -1, d 0", points(0, 27, 26, 0), 3);
        due("r 0, d 1", points(0, 27, 35, 0), 2);
        due("r 0, d -1", points(0, 27, 19, 0), 0);
        due("r 1, d 1", points(0, 27, 36, 0), 1);
        due("r -1, d 1", points(0, 27, 34, 0), 3);
        due("r 1, d -1", points(0, 27, 20, 0), 1);
        due("r -1, d -1", points(0, 27, 18, 0), 3);
        due("r 1, d 2", points(0, 27, 44, 0), 2);
        due("r -1, d -2", points(0, 27, 10, 0), 0);
        due("r -2, d 1", points(0, 27, 33, 0), 3);
        due("r 2, d -1", points(0, 27, 21, 0), 1);
        due("r 7, d 7", points(0, 0, 63, 0), 1);
        due("r -7, d 7", points(0, 7, 56, 0), 3);
        due("r 6, d 7", points(0, 0, 62, 0), 2);
        due("r -6, d -7", points(0, 63, 1, 0), 0);
    }

    private static void surveyor() {
        due("r 7, d 1", points(10, 0, 15, 0), 2);
        due("r 7, d -1", points(10, 8, 7, 0), 0);
        due("r 0, d 7", points(10, 0, 56, 0), 2);
        due("r 1, d 0", points(10, 0, 1, 0), 1);
        due("r -7, d 0", points(10, 7, 0, 0), 3);
    }

    private static void dreamer() {
        // What an engineer says is 1; the opposite one 3.
        for (int year = 0; year <= 10; year++) {
            TunnelHearsay x = still();
            pass(x, year);
            x.engineer(20, 0);
            for (int m = 0; m < 10; m++) {
                x.become(0, 20 + m);
                due("m " + m + ", year " + year, x.ofEngineer(0, 3), year % 5 == m % 5 ? 3 : 1);
            }
        }
        due("the opposite of 0", points(20, 59, 3, 0), 2);
        due("the opposite of 2", points(20, 3, 59, 0), 0);
        due("the opposite of 3", points(20, 31, 24, 0), 1);
        due("year 9999", points(24, 24, 31, 9999), 3);
        due("year 9999, m 9", points(29, 24, 31, 9999), 3);
        due("year 9999, m 0", points(20, 24, 31, 9999), 1);
    }

    private static void nextWay() {
        due("behind 0", points(31, 59, 3, 0), 1);
        due("behind 1", points(31, 24, 31, 0), 2);
        due("behind 2", points(31, 3, 59, 0), 3);
        due("behind 3", points(31, 31, 24, 0), 0);
    }

    private static void foreman() {
        for (int year = 0; year <= 11; year++) {
            TunnelHearsay x = still();
            pass(x, year);
            x.engineer(30, 0);
            for (int m = 0; m < 10; m++) {
                x.become(0, 30 + m);
                due("m " + m + ", year " + year, x.ofEngineer(0, 3), m > year % 10 ? 2 : 1);
            }
        }
        due("m 9, year 9999", points(39, 24, 31, 9999), 1);
    }

    /** Head 0 went by 1 to a cell; the other one is put to another. */
    private static TunnelHearsay wentRight(int km, int to) {
        TunnelHearsay x = headsAt(still(), 0, 2);
        x.dig(1, 1);
        x.engineer(0, 0);
        x.years(1);
        x.become(0, km);
        x.head(1, 0, to);
        return x;
    }

    private static void plumbFar() {
        due("FAR 1, m 0", wentRight(40, 9).ofEngineer(0, 3), 1);
        due("FAR 1, m 1", wentRight(41, 9).ofEngineer(0, 3), 2);
        due("FAR 9, m 8", wentRight(48, 38).ofEngineer(0, 3), 1);
        due("FAR 9, m 9", wentRight(49, 38).ofEngineer(0, 3), 2);
        due("FAR 10, m 9", wentRight(49, 46).ofEngineer(0, 3), 1);
        due("FAR 0, m 0", wentRight(40, 1).ofEngineer(0, 3), 4);
        due("FAR 1, m 1, along x", wentRight(41, 0).ofEngineer(0, 3), 3);
        TunnelHearsay x = headsAt(still(), 59, 3);
        digAll(x, 51);
        x.engineer(0, 0);
        x.years(1);
        x.become(0, 40);
        x.head(1, 0, 55);
        due("LAST 0", x.ofEngineer(0, 3), 0);
    }

    private static void plumbLast() {
        due("FAR 14, m 0", points(40, 0, 63, 0), 2);
        due("FAR 7, m 0, along x", points(40, 31, 24, 0), 3);
        TunnelHearsay x = wentRight(40, 19);
        x.change(0, 1);
        due("head 1 never went", x.ofEngineer(0, 3), 0);
        x.change(0, 0);
        due("head 0 went", x.ofEngineer(0, 3), 1);
    }

    private static void echo() {
        for (int m = 0; m < 10; m++) {
            due("m " + m + ", year 0", points(50 + m, 24, 31, 0), m % 5 == 0 ? 1 : 3);
            due("m " + m + ", year 4", points(50 + m, 3, 59, 4), m % 5 == 4 ? 2 : 0);
        }
    }

    private static void clerk() {
        due("year 0", points(69, 24, 31, 0), 4);
        due("year 1, m 9", points(69, 24, 31, 1), 2);
        due("year 1, m 2", points(62, 24, 31, 1), 2);
        due("year 1, m 1", points(61, 24, 31, 1), 1);
        due("year 2", points(69, 24, 31, 2), 4);
        due("year 10", points(69, 24, 31, 10), 4);
        due("year 11, m 2", points(62, 31, 24, 11), 0);
        due("year 11, m 1", points(61, 31, 24, 11), 3);
        due("year 9998", points(60, 24, 31, 9998), 4);
        due("year 9999", points(69, 24, 31, 9999), 1);
    }

    /** What the text gives for one of a kind who hears something at another cell, in a year. */
    private static int ears(int km, int from, int to, int year) {
        TunnelHearsay x = headsAt(still(), from, to);
        pass(x, year);
        x.engineer(km, 0);
        return x.ofEngineer(0, 4);
    }

    private static void plainEars() {
        for (int m = 0; m < 10; m += 9) {
            for (int year = 0; year < 2; year++) {
                due("ENGINEER", ears(m, 24, 31, year), 2);
                due("DREAMER", ears(20 + m, 24, 31, year), 1);
                due("FOREMAN", ears(30 + m, 24, 31, year), 4);
                due("CLERK", ears(60 + m, 24, 31, year), 2);
            }
        }
        due("ENGINEER, nothing off", ears(0, 24, 24, 0), 2);
        due("DREAMER, nothing off", ears(20, 24, 24, 0), 1);
    }

    private static void surveyorEars() {
        int[] thirds = {0, 0, 0, 1, 1, 1, 2, 2, 2, 3};
        for (int m = 0; m < 10; m++) {
            due("m " + m, ears(10 + m, 24, 31, 0), 2 + thirds[m]);
            due("m " + m + ", year 1", ears(10 + m, 24, 31, 1), 2 + thirds[m]);
        }
    }

    private static void plumbEars() {
        int[] thirds = {0, 0, 0, 1, 1, 1, 2, 2, 2, 3};
        for (int m = 0; m < 10; m++) {
            due("m " + m + ", year 0", ears(40 + m, 24, 31, 0), 3 + thirds[m]);
            due("m " + m + ", year 1", ears(40 + m, 24, 31, 1), 2 + thirds[m]);
            due("m " + m + ", year 2", ears(40 + m, 24, 31, 2), 3 + thirds[m]);
        }
    }

    private static void echoEars() {
        due("FAR 0, m 0", ears(50, 24, 24, 0), 0);
        due("FAR 1, m 0", ears(50, 24, 25, 0), 1);
        due("FAR 1, m 1", ears(51, 24, 25, 0), 0);
        due("FAR 7, m 6", ears(56, 24, 31, 0), 1);
        due("FAR 7, m 7", ears(57, 24, 31, 0), 0);
        due("FAR 7, m 8", ears(58, 24, 31, 0), 0);
        due("FAR 9, m 9", ears(59, 0, 58, 0), 0);
        due("FAR 10, m 9", ears(59, 0, 59, 0), 1);
        due("FAR 14, m 9", ears(59, 0, 63, 0), 1);
        TunnelHearsay x = still();
        x.engineer(57, 0);
        give(x, 0, "e+5");
        due("0, no less", x.ofEngineer(0, 4), 5);
        x.become(0, 56);
        due("1, no more", x.ofEngineer(0, 4), 6);
    }

    private static void restByEight() {
        TunnelHearsay x = still();
        x.engineer(0, 0);
        give(x, 0, "y");
        for (int year = 0; year <= 17; year++) {
            due("year " + year, x.ofEngineer(0, 4), year % 8);
            x.years(1);
        }
        pass(x, 9999 - 18);
        due("year 9999", x.ofEngineer(0, 4), 7);
    }

    private static void heldEars() {
        TunnelHearsay x = headsAt(still(), 0, 63);
        x.engineer(0, 0);
        String[] texts = {"d+6", "d+7", "e-2", "e-3", "9999*9999", "0-9999"};
        int[] gives = {20, 20, 0, 0, 20, 0};
        for (int i = 0; i < texts.length; i++) {
            give(x, 0, texts[i]);
            due(texts[i], x.ofEngineer(0, 4), gives[i]);
        }
        give(x, 0, "d");
        due("14 off, the most", x.ofEngineer(0, 4), 14);
        x.head(1, 0, 0);
        due("nothing off", x.ofEngineer(0, 4), 0);
    }

    /** By x 3, by y 2 off: an engineer points by 1, a surveyor by 2, a dreamer of m 0 by 3 in year 0. */
    private static TunnelHearsay crew(int... kms) {
        TunnelHearsay x = headsAt(still(), 9, 28);
        for (int km : kms) {
            x.engineer(km, 0);
        }
        return x;
    }

    private static void least() {
        due("1 and 2, each 2", crew(0, 10).ofHead(0, 4), 1);
        due("2 and 1, each 2", crew(10, 0).ofHead(0, 4), 1);
        due("1 and 2, 2 more", crew(0, 13).ofHead(0, 4), 2);
        due("2 and 3, each 2", crew(20, 20, 10).ofHead(0, 4), 2);
        due("2 and 3, 3 more", crew(20, 20, 20, 10).ofHead(0, 4), 3);
        // What is heard is up: a surveyor points by 0, a dreamer of m 0 by 2 (the opposite of 0).
        TunnelHearsay x = headsAt(still(), 28, 12);
        x.engineer(20, 0);
        x.engineer(21, 0);
        due("0 and 2, each 1", x.ofHead(0, 4), 0);
        x.engineer(25, 0);
        due("0 and 2, 2 more", x.ofHead(0, 4), 2);
        x.head(1, 0, 24);
        x.become(0, 31);
        x.become(1, 0);
        x.become(2, 5);
        due("0 (behind 3) and 3, each 4", x.ofHead(0, 4), 0);
    }

    private static void together() {
        due("2 and 2 by 1, 3 by 2", crew(13, 0, 0).ofHead(0, 4), 1);
        due("2 by 1, 3 by 2", crew(13, 0).ofHead(0, 4), 2);
        due("four times 2 by 1, 9 by 2", crew(0, 0, 0, 0, 19, 16).ofHead(0, 4), 2);
        TunnelHearsay x = crew(0, 0, 0, 0, 0, 0, 0, 10);
        due("all but one", x.ofHead(0, 4), 1);
        give(x, 0, "20");
        due("20 each, more than 20 together", x.ofHead(0, 4), 1);
        TunnelHearsay y = crew(10, 10, 10, 0, 0);
        give(y, 0, "99");
        due("60 and 40: held one by one alone", y.ofHead(0, 4), 2);
    }

    private static void hearkensToNone() {
        due("nobody", crew().ofHead(0, 4), 4);
        due("one who hears nothing (9 is not below FAR 5)", crew(59).ofHead(0, 4), 4);
        due("one who hears something (FAR 5 is above 4)", crew(54).ofHead(0, 4), 3);
        due("one who points to none", crew(69).ofHead(0, 4), 4);
        due("many who point to none, one who doesn't", crew(69, 69, 69, 69, 20).ofHead(0, 4), 3);
        TunnelHearsay x = crew(0, 10, 20);
        give(x, 0, "0");
        due("0 for all", x.ofHead(0, 4), 4);
        give(x, 0, "0-1");
        due("held, so not below 0", x.ofHead(0, 4), 4);
        give(x, 0, "e=1");
        due("1 for one alone", x.ofHead(0, 4), 3);
    }

    private static void ofItsSide() {
        TunnelHearsay x = crew(0, 19);
        due("both", x.ofHead(0, 4), 2);
        due("nobody of side 1", x.ofHead(1, 4), 4);
        x.change(1, 1);
        due("one of side 0", x.ofHead(0, 4), 1);
        due("one of side 1, up", x.ofHead(1, 4), 0);
        x.change(0, 1);
        due("nobody of side 0", x.ofHead(0, 4), 4);
        due("both of side 1", x.ofHead(1, 4), 0);
    }

    private static void change() {
        TunnelHearsay x = fresh();
        x.engineer(0, 1);
        due("to 1 again", x.change(0, 1), 1);
        due("to 0", x.change(0, 0), 1);
        due("to 0 again", x.change(0, 0), 0);
        due("to 2", x.change(0, 2), BEYOND);
        due("to -1", x.change(0, -1), BEYOND);
        due("one that isn't there", x.change(1, 0), BEYOND);
        due("0 it is", x.ofEngineer(0, 2), 0);
    }

    private static void become() {
        TunnelHearsay x = fresh();
        x.engineer(69, 1);
        due("as it is", x.become(0, 69), 6);
        due("an ENGINEER", x.become(0, 0), 6);
        due("a CLERK", x.become(0, 60), 0);
        due("one that isn't there", x.become(1, 0), BEYOND);
        due("SIDE is as it was", x.ofEngineer(0, 2), 1);
        due("no more of them", x.count(0), 1);
    }

    private static void as() {
        TunnelHearsay x = fresh();
        x.engineer(9, 0);
        int[][] above = {{0}, {0, 1}, {0, 2}, {0, 3}, {0, 1, 4}, {0, 2, 5}, {0, 3, 6}};
        for (int kind = 0; kind < 7; kind++) {
            x.become(0, 10 * kind + kind);
            int many = 0;
            for (int upper = 0; upper < 7; upper++) {
                many += x.as(0, upper) == kind ? 1 : 0;
            }
            due("of how many is " + kind, many, above[kind].length);
            for (int upper : above[kind]) {
                due(kind + " as " + upper, x.as(0, upper), kind);
            }
        }
        due("7 is none", x.as(0, 7), BEYOND);
        due("-1 is none", x.as(0, -1), BEYOND);
    }
}
