/** What the tests share: asking with what is due, and hills to ask. A test extends it, to use it by plain names. */
abstract class Asking {
    static final int LOW = -1000000000;
    static final int BEYOND = LOW - 1;
    static final int NONE = LOW - 2;
    static final int STATE = LOW - 3;
    static final int FULL = LOW - 4;
    static final int KIND = LOW - 5;
    static final int MAX = Integer.MAX_VALUE;
    static final int MIN = Integer.MIN_VALUE;

    private static int wrong;
    private static int asked;
    private static String words = "";

    /** The words of the document that what follows is about. */
    static void says(String sentence) {
        words = sentence;
    }

    static void due(String call, long got, long want) {
        asked++;
        if (got != want) {
            wrong++;
            System.out.println("\"" + words + "\": " + call + " answered " + got + ", due is " + want);
        }
    }

    static void end() {
        System.out.println(wrong == 0 ? "all " + asked + " answers are as due" : wrong + " answers are not as due");
        if (wrong != 0) {
            System.exit(1);
        }
    }

    // ---- hills

    static TunnelHearsay fresh() {
        return new TunnelHearsay();
    }

    static TunnelHearsay hard() {
        return allOf(9);
    }

    /** No rock at all: a head goes one cell a year. */
    static TunnelHearsay soft() {
        return allOf(0);
    }

    /** All rock is 9 and nobody digs: years pass, and a head goes only where it is dug. */
    static TunnelHearsay still() {
        TunnelHearsay x = hard();
        give(x, 1, "0");
        return x;
    }

    private static TunnelHearsay allOf(int rock) {
        TunnelHearsay x = fresh();
        for (int cell = 0; cell < 64; cell++) {
            x.rock(cell, rock);
        }
        return x;
    }

    static TunnelHearsay headsAt(TunnelHearsay x, int first, int second) {
        x.head(0, 0, first);
        x.head(1, 0, second);
        return x;
    }

    static void pass(TunnelHearsay x, int years) {
        for (int left = years; left > 0; left -= 60) {
            x.years(Math.min(60, left));
        }
    }

    static void digAll(TunnelHearsay x, int... cells) {
        for (int cell : cells) {
            x.dig(cell, 1);
        }
    }

    // ---- texts, sheets

    static void feedAll(TunnelHearsay x, String text) {
        for (int i = 0; i < text.length(); i += 8) {
            int n = Math.min(8, text.length() - i);
            long word = 0;
            for (int k = n - 1; k >= 0; k--) {
                word = word << 8 | text.charAt(i + k);
            }
            x.feed(word, n);
        }
    }

    static int give(TunnelHearsay x, int use, String text) {
        feedAll(x, text);
        return x.text(use);
    }

    static void write(TunnelHearsay x, int sheet, int bits, int... numbers) {
        x.sheet(sheet, bits, numbers.length);
        for (int i = 0; i < numbers.length; i++) {
            x.put(sheet, i, numbers[i]);
        }
    }
}
