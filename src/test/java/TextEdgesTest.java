/** The edges that the document names of TEXTS: terms 2, promises 13 to 15. A test for each sentence. */
public final class TextEdgesTest extends Asking {
    private static final int SOUND = -1;
    private static final String FORTY_NINE = "1+1+1+1+1+1+1+1+1+1+1+1+1+1+1+1+1+1+1+1+1+1+1+1+1";

    public static void main(String[] args) {
        says("THE TAPE (bytes, at most 50)"); tapeIsFull();
        says("feed: the n lowest bytes (1 .. 8) of a word, the lowest first"); lowestBytes();
        says("feed: how many there are"); howMany();
        says("text: THE TAPE, which is empty then"); tapeIsEmpty();
        says("text: in place of one ahead"); inPlace();
        says("text: BEYOND (THE TAPE stays)"); tapeStays();
        says("text: -10 less the FAULT (the one ahead stays)"); oneAheadStays();
        says("a NUMBER of 1 to 4 digits"); digits();
        says("a NAME (of the USE)"); names();
        says("No blanks"); blanks();
        says("B: S, or S < S, S = S, S > S"); oneComparison();
        says("T: A { | A }. A: B { & B }. S: P { + P, - P }. P: Q { * Q, / Q, % Q }"); rows();
        says("Q: ! Q, ( T )"); units();
        says("At most 5 of ! and ( are open at once"); open();
        says("At most 5 of ! and ( are open at once: what is closed isn't open"); closed();
        says("FAULT: the place of the first byte with which no TEXT goes on"); firstByte();
        says("FAULT: how many there are, if it ends too early"); endsTooEarly();
        says("Ints that wrap"); wrap();
        says("/ cut, % the rest that it leaves"); quotients();
        says("both by 0 are 0"); byZero();
        says("| & < = > ! are 1 or 0, what is not 0 being true"); truth();
        says("USES: held within 0 to 20"); held();
        says("USES: without a TEXT e; without a TEXT p"); withoutText();
        says("law: its NAMES in order as a, b, c"); inOrder();
        end();
    }

    private static void tapeIsFull() {
        TunnelHearsay x = fresh();
        feedAll(x, FORTY_NINE);
        due("49", x.count(7), 49);
        due("two more", x.feed(0x2B2BL, 2), FULL);
        due("eight more", x.feed(0L, 8), FULL);
        due("49 still", x.count(7), 49);
        due("one more", x.feed('2', 1), 50);
        due("one too many", x.feed('2', 1), FULL);
        due("50 still", x.count(7), 50);
        due("and sound", x.text(0), 1);
        due("24 ones and 12, held", x.law(0, 0, 0, 0), 20);
        TunnelHearsay y = fresh();
        for (int i = 1; i <= 50; i++) {
            due("byte " + i, y.feed('!', 1), i);
        }
        due("byte 51", y.feed('!', 1), FULL);
        TunnelHearsay z = fresh();
        for (int i = 1; i <= 6; i++) {
            due("eight more", z.feed(0L, 8), 8 * i);
        }
        due("48, and 3", z.feed(0L, 3), FULL);
        due("48, and 2", z.feed(0L, 2), 50);
    }

    private static void lowestBytes() {
        TunnelHearsay x = fresh();
        due("one", x.feed(0x3939393939393937L, 1), 1);
        due("sound", x.text(0), 1);
        due("the lowest alone", x.law(0, 0, 0, 0), 7);
        // 1+2*4-60, of which the first is the lowest.
        due("eight", x.feed(0x30362D342A322B31L, 8), 8);
        due("sound, too", x.text(0), 1);
        due("1 + 2 * 4 - 60, held", x.law(0, 0, 0, 0), 0);
        due("seven of them", x.feed(0x30362D342A322B31L, 7), 7);
        due("sound as well", x.text(0), 1);
        due("1 + 2 * 4 - 6", x.law(0, 0, 0, 0), 3);
        due("a word below 0", x.feed(-1L, 8), 8);
        due("255 is no sign", x.text(0), -10);
        x.feed(0x80L << 8 | '1', 2);
        due("128 is no sign", x.text(0), -11);
        x.feed('1', 2);
        due("0 is no sign", x.text(0), -11);
        due("0 bytes", x.feed(0L, 0), BEYOND);
        due("9 bytes", x.feed(0L, 9), BEYOND);
        due("nothing came", x.count(7), 0);
    }

    private static void howMany() {
        TunnelHearsay x = fresh();
        due("empty at first", x.count(7), 0);
        due("1", x.feed(0L, 1), 1);
        due("and 8", x.feed(0L, 8), 9);
        due("and 3", x.feed(0L, 3), 12);
        due("12", x.count(7), 12);
    }

    private static void tapeIsEmpty() {
        TunnelHearsay x = fresh();
        due("of use 0", give(x, 0, "e+1"), 1);
        due("empty behind it", x.count(7), 0);
        due("of use 1", give(x, 1, "p+1"), 1);
        due("empty behind that", x.count(7), 0);
        due("a fault", give(x, 1, "p+e"), -12);
        due("empty behind a fault", x.count(7), 0);
        due("an empty one", x.text(1), -10);
        feedAll(x, FORTY_NINE);
        x.text(0);
        due("from anew", x.feed(0L, 8), 8);
    }

    private static void inPlace() {
        TunnelHearsay x = fresh();
        give(x, 0, FORTY_NINE);
        due("a long one", x.law(0, 3, 0, 0), 20);
        give(x, 0, "e");
        due("a short one", x.law(0, 3, 0, 0), 3);
        give(x, 0, "e*2");
        due("another one", x.law(0, 3, 0, 0), 6);
        due("the other use has none", x.law(1, 3, 0, 0), 3);
        give(x, 1, "p*5");
        due("the other use has one", x.law(1, 3, 0, 0), 15);
        due("this one stays", x.law(0, 3, 0, 0), 6);
    }

    private static void tapeStays() {
        TunnelHearsay x = fresh();
        feedAll(x, "e+7");
        due("text(2)", x.text(2), BEYOND);
        due("text(-1)", x.text(-1), BEYOND);
        due("text(MAX)", x.text(MAX), BEYOND);
        due("text(MIN)", x.text(MIN), BEYOND);
        due("3 bytes", x.count(7), 3);
        due("as they were", x.text(0), 1);
        due("e + 7", x.law(0, 1, 0, 0), 8);
    }

    private static void oneAheadStays() {
        TunnelHearsay x = fresh();
        give(x, 0, "e+7");
        due("a fault at the end", give(x, 0, "9+"), -12);
        due("e + 7", x.law(0, 1, 0, 0), 8);
        due("a fault at the beginning", give(x, 0, "+"), -10);
        due("e + 7 still", x.law(0, 1, 0, 0), 8);
        due("an empty one", x.text(0), -10);
        due("e + 7 yet", x.law(0, 1, 0, 0), 8);
        due("no fault of use 1 changes it", give(x, 1, "e"), -10);
        due("use 1 has none yet", x.law(1, 4, 0, 0), 4);
    }

    private static void fault(int use, String text, int place) {
        TunnelHearsay x = fresh();
        due(text + " as " + use, give(x, use, text), place == SOUND ? 1 : -10 - place);
    }

    private static void worth(String text, int a, int b, int c, int want) {
        TunnelHearsay x = fresh();
        due("reading " + text, give(x, 0, text), 1);
        due(text + " of " + a + ", " + b + ", " + c, x.law(0, a, b, c), want);
    }

    private static void digits() {
        fault(0, "", 0);
        fault(0, "0", SOUND);
        fault(0, "9", SOUND);
        fault(0, "99", SOUND);
        fault(0, "999", SOUND);
        fault(0, "9999", SOUND);
        fault(0, "99999", 4);
        fault(0, "00000", 4);
        fault(0, "e+99999", 6);
        fault(0, "(12345)", 5);
        fault(0, "!12345", 5);
        worth("0007", 0, 0, 0, 7);
        worth("9999=d", 0, 9999, 0, 1);
        worth("1234=d", 0, 1234, 0, 1);
        worth("1234+1234=d", 0, 2468, 0, 1);
        fault(0, "/", 0);
        fault(0, ":", 0);
        fault(0, "1:", 1);
    }

    private static void names() {
        for (char name : "edy".toCharArray()) {
            fault(0, "" + name, SOUND);
            fault(1, "" + name, 0);
        }
        for (char name : "prw".toCharArray()) {
            fault(1, "" + name, SOUND);
            fault(0, "" + name, 0);
        }
        for (char name : "abcfgxzEDYPRW".toCharArray()) {
            fault(0, "" + name, 0);
            fault(1, "" + name, 0);
        }
        fault(0, "ee", 1);
        fault(0, "e1", 1);
        fault(0, "1e", 1);
    }

    private static void blanks() {
        fault(0, " e", 0);
        fault(0, "e ", 1);
        fault(0, "e +1", 1);
        fault(0, "e+ 1", 2);
        fault(0, "e+1\n", 3);
        fault(0, "( e)", 1);
    }

    private static void oneComparison() {
        for (String sign : new String[] {"<", "=", ">"}) {
            fault(0, "1" + sign + "2", SOUND);
            fault(0, "1" + sign, 2);
            fault(0, sign + "1", 0);
            for (String other : new String[] {"<", "=", ">"}) {
                fault(0, "1" + sign + other, 2);
                fault(0, "1" + sign + "2" + other + "3", 3);
                fault(0, "1" + sign + "2+1" + other + "3", 5);
                fault(0, "1" + sign + "2&3" + other + "4", SOUND);
                fault(0, "1" + sign + "2|3" + other + "4", SOUND);
                fault(0, "(1" + sign + "2)" + other + "3", SOUND);
                fault(0, "1" + sign + "(2" + other + "3)", SOUND);
                fault(0, "(1" + sign + "2" + other + "3)", 4);
            }
        }
    }

    private static void rows() {
        for (String sign : new String[] {"|", "&", "+", "-", "*", "/", "%"}) {
            fault(0, "1" + sign + "2", SOUND);
            fault(0, "1" + sign + "2" + sign + "3", SOUND);
            fault(0, sign + "1", 0);
            fault(0, "1" + sign, 2);
            fault(0, "1" + sign + sign + "2", 2);
            fault(0, "1" + sign + ")", 2);
            fault(0, "(1" + sign + "2)", SOUND);
            fault(0, "!(1" + sign + "2" + sign + "3)", SOUND);
            fault(0, "(1" + sign + ")", 3);
        }
        worth("20-7-5", 0, 0, 0, 8);
        worth("20-(7-5)", 0, 0, 0, 18);
        worth("20/5/2", 0, 0, 0, 2);
        worth("20/(5/2)", 0, 0, 0, 10);
        worth("20%7*2", 0, 0, 0, 12);
        worth("2+3*4", 0, 0, 0, 14);
        worth("2*3+4", 0, 0, 0, 10);
        worth("1+1<1+2", 0, 0, 0, 1);
        worth("1|1&0", 0, 0, 0, 1);
        worth("0&1|1", 0, 0, 0, 1);
        worth("1&1<0", 0, 0, 0, 0);
        worth("0|1<0", 0, 0, 0, 0);
    }

    private static void units() {
        fault(0, "!e", SOUND);
        fault(0, "!!e", SOUND);
        fault(0, "!", 1);
        fault(0, "!)", 1);
        fault(0, "!+", 1);
        fault(0, "e!", 1);
        fault(0, "(e)", SOUND);
        fault(0, "(", 1);
        fault(0, "()", 1);
        fault(0, ")", 0);
        fault(0, "e)", 1);
        fault(0, "e(", 1);
        fault(0, "(e)e", 3);
        fault(0, "(e)1", 3);
        fault(0, "(e)(e)", 3);
        fault(0, "(e)!e", 3);
        fault(0, "!(e)", SOUND);
        fault(0, "(!e)", SOUND);
        worth("!e*7", 0, 0, 0, 7);
        worth("!(e*7)", 0, 0, 0, 1);
        worth("!e=0", 5, 0, 0, 1);
    }

    private static void open() {
        fault(0, "!!!!!e", SOUND);
        fault(0, "!!!!!!e", 5);
        fault(0, "(((((e)))))", SOUND);
        fault(0, "((((((e))))))", 5);
        fault(0, "((((!e))))", SOUND);
        fault(0, "(((((!e)))))", 5);
        fault(0, "!!!!(e)", SOUND);
        fault(0, "!!!!!(e)", 5);
        fault(0, "!(!(!e))", SOUND);
        fault(0, "!(!(!(e)))", 5);
        fault(0, "!(!(!!e))", 5);
        fault(0, "1+(1+(1+(1+(1+(1+(1))))))", 17);
        fault(0, "!!!!!", 5);
        fault(0, "(((((", 5);
        fault(0, "!!!!!!", 5);
        fault(0, "((((((", 5);
        worth("!!!!!e", 0, 0, 0, 1);
        worth("(((((e)))))", 9, 0, 0, 9);
        worth("(((((e)+1)+1)+1)+1)", 9, 0, 0, 13);
        fault(1, "!!!!!p", SOUND);
        fault(1, "!!!!!!p", 5);
    }

    private static void closed() {
        fault(0, "!!!!!e+!!!!!d*!!!!!y", SOUND);
        fault(0, "(((((e)))))+(((((d)))))", SOUND);
        fault(0, "(((((e))))+(((d))))", SOUND);
        fault(0, "(((((e))))+((((d)))))", SOUND);
        fault(0, "(((((e))))+(((((d))))))", 15);
        fault(0, "(!!!!e+!!!!d)", SOUND);
        fault(0, "(!!!!e+!!!!!d)", 11);
        fault(0, "!(!!!e)+!!!!!e", SOUND);
        fault(0, "(!(!e)+!!!!e)", SOUND);
        fault(0, "(!(!e)+!!!!!e)", 11);
        fault(0, "((!1+!1)+(!1+!(!1)))", SOUND);
        fault(0, "!1!1", 2);
    }

    private static void firstByte() {
        fault(0, "?", 0);
        fault(0, "?????", 0);
        fault(0, "e?+?", 1);
        fault(0, "e+?", 2);
        fault(0, "(e?)", 2);
        fault(0, "(e))", 3);
        fault(0, "(e))+(", 3);
        fault(0, "1<2<", 3);
        fault(0, FORTY_NINE + "?", 49);
        fault(0, FORTY_NINE + "e", 49);
        fault(0, "?" + FORTY_NINE, 0);
    }

    private static void endsTooEarly() {
        fault(0, "", 0);
        fault(1, "", 0);
        fault(0, "e+", 2);
        fault(0, "e<", 2);
        fault(0, "(e", 2);
        fault(0, "((e)", 4);
        fault(0, "(e+", 3);
        fault(0, "!", 1);
        fault(0, "(", 1);
        fault(0, FORTY_NINE + "+", 50);
        fault(0, "(" + FORTY_NINE, 50);
        fault(0, FORTY_NINE + "1", SOUND);
    }

    private static void wrap() {
        worth("e+1<0", MAX, 0, 0, 1);
        worth("e+1=d", MAX, MIN, 0, 1);
        worth("e-1=d", MIN, MAX, 0, 1);
        worth("e*2=0", MIN, 0, 0, 1);
        worth("e*e=1", MAX, 0, 0, 1);
        worth("0-e=e", MIN, 0, 0, 1);
        worth("e/d=e", MIN, -1, 0, 1);
        worth("e%d=0", MIN, -1, 0, 1);
        worth("e*d=y", 65536, 65536, 0, 1);
        worth("9999*9999*9999=e", 9999 * 9999 * 9999, 0, 0, 1);
        worth("e<d", MIN, MAX, 0, 1);
        worth("e>d", MAX, MIN, 0, 1);
    }

    private static void quotients() {
        worth("e/d+10", 7, 2, 0, 13);
        worth("e/d+10", -7, 2, 0, 7);
        worth("e/d+10", 7, -2, 0, 7);
        worth("e/d+10", -7, -2, 0, 13);
        worth("e%d+10", 7, 2, 0, 11);
        worth("e%d+10", -7, 2, 0, 9);
        worth("e%d+10", 7, -2, 0, 11);
        worth("e%d+10", -7, -2, 0, 9);
        worth("e/d+10", 1, 2, 0, 10);
        worth("e/d+10", -1, 2, 0, 10);
    }

    private static void byZero() {
        worth("7/0+5", 0, 0, 0, 5);
        worth("7%0+5", 0, 0, 0, 5);
        worth("e/d+5", MIN, 0, 0, 5);
        worth("e%d+5", MAX, 0, 0, 5);
        worth("0/0+5", 0, 0, 0, 5);
        worth("9/(1<0)+5", 0, 0, 0, 5);
        worth("1|7/0", 0, 0, 0, 1);
        worth("0&7%0", 0, 0, 0, 0);
    }

    private static void truth() {
        for (int a : new int[] {MIN, -1, 0, 1, 2, MAX}) {
            worth("!e", a, 0, 0, a == 0 ? 1 : 0);
            worth("!!e", a, 0, 0, a == 0 ? 0 : 1);
            for (int b : new int[] {MIN, -1, 0, 1, 2, MAX}) {
                worth("e|d", a, b, 0, a != 0 || b != 0 ? 1 : 0);
                worth("e&d", a, b, 0, a != 0 && b != 0 ? 1 : 0);
                worth("e<d", a, b, 0, a < b ? 1 : 0);
                worth("e=d", a, b, 0, a == b ? 1 : 0);
                worth("e>d", a, b, 0, a > b ? 1 : 0);
            }
        }
        worth("5+(0|0)", 0, 0, 0, 5);
        worth("5+(0&1)", 0, 0, 0, 5);
        worth("5+(1<1)", 0, 0, 0, 5);
        worth("5+(1=2)", 0, 0, 0, 5);
        worth("5+(1>1)", 0, 0, 0, 5);
        worth("5+!7", 0, 0, 0, 5);
    }

    private static void held() {
        int[][] rows = {{MIN, 0}, {-1, 0}, {0, 0}, {1, 1}, {19, 19}, {20, 20}, {21, 20}, {MAX, 20}};
        TunnelHearsay x = fresh();
        give(x, 0, "e");
        give(x, 1, "p");
        for (int[] row : rows) {
            due("e of " + row[0], x.law(0, row[0], 7, 7), row[1]);
            due("p of " + row[0], x.law(1, row[0], 7, 7), row[1]);
        }
        give(x, 0, "d");
        give(x, 1, "w");
        for (int[] row : rows) {
            due("d of " + row[0], x.law(0, 7, row[0], 7), row[1]);
            due("w of " + row[0], x.law(1, 7, 7, row[0]), row[1]);
        }
    }

    private static void withoutText() {
        TunnelHearsay x = fresh();
        int[][] rows = {{MIN, 0}, {-1, 0}, {0, 0}, {1, 1}, {20, 20}, {21, 20}, {MAX, 20}};
        for (int[] row : rows) {
            due("use 0 of " + row[0], x.law(0, row[0], 7, 7), row[1]);
            due("use 1 of " + row[0], x.law(1, row[0], 7, 7), row[1]);
        }
        due("a fault gives none", give(x, 0, "9+"), -12);
        due("use 0 has none yet", x.law(0, 5, 7, 7), 5);
    }

    private static void inOrder() {
        TunnelHearsay x = fresh();
        give(x, 0, "e*9+d*3+y");
        due("use 0", x.law(0, 1, 2, 0), 15);
        due("use 0 again", x.law(0, 0, 1, 2), 5);
        give(x, 1, "p*9+r*3+w");
        due("use 1", x.law(1, 1, 2, 0), 15);
        due("use 1 again", x.law(1, 0, 1, 2), 5);
        due("use 2", x.law(2, 0, 0, 0), BEYOND);
        due("use -1", x.law(-1, 0, 0, 0), BEYOND);
    }
}
