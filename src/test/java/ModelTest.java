import java.util.ArrayList;
import java.util.Arrays;
import java.util.Collections;
import java.util.List;
import java.util.Random;

/**
 * Long runs of drawn calls (the draws are the same each time), each answer beside that of a model which
 * was written from the document by other means: kinds as classes, all years kept, texts worked out as they stand.
 */
public final class ModelTest extends Asking {
    private static final int RUNS = 500;
    private static final int CALLS = 512;

    public static void main(String[] args) throws Exception {
        int wrong = 0;
        int[] answers = new int[7];
        for (int run = 0; run < RUNS && wrong < 5; run++) {
            wrong += run(run, answers);
        }
        for (int k = 1; k <= 5; k++) {
            if (answers[k] == 0) {
                wrong++;
                System.out.println("no call drew the error " + k + ": the runs are too tame");
            }
        }
        System.out.println(wrong == 0 ? RUNS + " runs are as the model's" : wrong + " runs are not as the model's");
        if (wrong != 0) {
            System.exit(1);
        }
    }

    private static int run(int number, int[] answers) {
        Calls calls = new Calls(new Random(number * 7919L + 17));
        TunnelHearsay x = new TunnelHearsay();
        Model model = new Model();
        List<String> said = new ArrayList<>();
        for (int i = 0; i < CALLS; i++) {
            Call call = calls.next(model);
            long want = call.ask(model);
            long got = call.ask(x);
            said.add(call + " = " + got);
            int kind = want < LOW && want >= KIND ? (int) (LOW - want) : 0;
            answers[kind]++;
            if (got != want) {
                System.out.println("run " + number + ", call " + i + ": " + call + " answered " + got + ", the model " + want);
                for (int k = Math.max(0, said.size() - 30); k < said.size(); k++) {
                    System.out.println("    " + said.get(k));
                }
                return 1;
            }
        }
        return 0;
    }

    /** Draws calls: mostly sound ones, some just beyond, a few wild ones. */
    private static final class Calls {
        private static final String[] TEXTS = {
            "e", "e+d/4", "p-r/3", "p+w", "20", "0", "e*d%7", "e>1", "!y*9", "(e+d)*(y<4)", "y", "p*(w<r)", "r+1",
            "d>6|e=2&!y", "p%r+w/2", "1<2<3", "((e", "12345", "e+p", "!!!!!!e", "w=0", "(((((y)))))+d",
        };
        private static final String SIGNS = "edyprw0123456789|&<=>+-*/%!()";
        private final Random draw;
        private final List<Call> due = new ArrayList<>();
        private final int[] sound;

        Calls(Random draw) {
            this.draw = draw;
            // Some runs go through the years seldom, so that states come which seldom would.
            sound = new int[] {draw.nextInt(4), draw.nextInt(3)};
            int crew = draw.nextInt(9);
            for (int i = 0; i < crew; i++) {
                due.add(new Call("engineer", draw.nextInt(70), draw.nextInt(2)));
            }
        }

        private int to(int most) {
            int luck = draw.nextInt(60);
            if (luck == 0) {
                return most + 1;
            }
            if (luck == 1) {
                return -1;
            }
            if (luck == 2) {
                return draw.nextInt();
            }
            return draw.nextInt(most + 1);
        }

        private int who(Model m) {
            return m.crew.isEmpty() ? to(7) : draw.nextInt(20) == 0 ? to(8) : draw.nextInt(m.crew.size());
        }

        private void words(String text) {
            for (int i = 0; i < text.length(); i += 8) {
                String part = text.substring(i, Math.min(text.length(), i + 8));
                long word = draw.nextLong();
                for (int k = 0; k < part.length(); k++) {
                    word &= ~(255L << 8 * k);
                    word |= (long) part.charAt(k) << 8 * k;
                }
                due.add(new Call("feed", word, part.length()));
            }
        }

        private String madeText() {
            if (draw.nextInt(3) == 0) {
                return TEXTS[draw.nextInt(TEXTS.length)];
            }
            StringBuilder text = new StringBuilder();
            grow(text, draw.nextInt(2) * 3, 0);
            if (draw.nextInt(3) == 0 && text.length() > 0) {
                text.setCharAt(draw.nextInt(text.length()), SIGNS.charAt(draw.nextInt(SIGNS.length())));
            }
            text.setLength(Math.min(50, text.length()));
            return text.toString();
        }

        private void grow(StringBuilder text, int names, int depth) {
            int parts = 1 + draw.nextInt(3);
            for (int i = 0; i < parts; i++) {
                if (i > 0) {
                    text.append("|&<=>+-*/%+-*".charAt(draw.nextInt(13)));
                }
                int luck = draw.nextInt(8);
                if (luck == 0 && depth < 5) {
                    text.append('!');
                    luck = 3;
                }
                if (luck < 2 && depth < 5) {
                    text.append('(');
                    grow(text, names, depth + 1);
                    text.append(')');
                } else if (luck < 5) {
                    text.append(draw.nextInt(draw.nextBoolean() ? 10 : 10000));
                } else {
                    text.append("edyprw".charAt(names + draw.nextInt(3)));
                }
            }
        }

        /** A sheet that tells what will be, so that HEARD and WHICH find something. */
        private void truth(Model m) {
            int head = draw.nextInt(2);
            int n = draw.nextInt(7);
            int sheet = draw.nextInt(4);
            due.add(new Call("sheet", sheet, 8 << draw.nextInt(3), n));
            World w = m.w.copy();
            for (int i = 0; i < n; i++) {
                w.year(m.crew, m.texts);
                due.add(new Call("put", sheet, i, w.at[head]));
            }
            due.add(new Call("heard", sheet, head, 0));
            due.add(new Call("heard", sheet, head, 1));
            due.add(new Call("which", sheet, who(m)));
        }

        private void sides(Model m) {
            int sheet = draw.nextInt(4);
            int n = Math.max(0, m.crew.size() + (draw.nextInt(4) == 0 ? draw.nextInt(3) - 1 : 0));
            due.add(new Call("sheet", sheet, 8 << draw.nextInt(3), n));
            for (int i = 0; i < n; i++) {
                due.add(new Call("put", sheet, i, i < m.crew.size() && draw.nextInt(9) > 0 ? m.crew.get(i).side : draw.nextInt(3)));
            }
            due.add(new Call("judge", sheet));
            due.add(new Call("rocks", sheet));
        }

        private void numbers(Model m) {
            World w = m.w.copy();
            int n = draw.nextInt(22);
            for (int i = 0; i < n; i++) {
                w.year(m.crew, m.texts);
                due.add(new Call("tell", draw.nextInt(25) == 0 ? draw.nextInt(15) : w.far()));
            }
            due.add(new Call("check"));
        }

        Call next(Model m) {
            if (due.isEmpty()) {
                fill(m);
            }
            return due.remove(0);
        }

        private void fill(Model m) {
            int luck = draw.nextInt(47);
            if (luck < 16) {
                first(luck, m);
            } else if (luck < 32) {
                second(luck, m);
            } else {
                third(luck, m);
            }
        }

        private void first(int luck, Model m) {
            switch (luck) {
                case 0: due.add(new Call("rock", to(63), to(9))); break;
                case 1: due.add(new Call("dig", to(63), to(1))); break;
                case 2: due.add(new Call("ofCell", to(63), to(2))); break;
                case 3: {
                    int what = to(2);
                    due.add(new Call("head", to(1), what, to(what == 0 ? 63 : what == 1 ? 20 : 99)));
                    break;
                }
                case 4: due.add(new Call("ofHead", to(1), to(5))); break;
                case 5: due.add(new Call("delay", to(9))); break;
                case 6: due.add(new Call("engineer", to(69), to(1))); break;
                case 7: due.add(new Call("ofEngineer", who(m), to(4))); break;
                case 8: due.add(new Call("ofEngineer", who(m), 3 + draw.nextInt(2))); break;
                case 9: due.add(new Call("change", who(m), to(1))); break;
                case 10: due.add(new Call("become", who(m), to(69))); break;
                case 11: due.add(new Call("as", who(m), to(6))); break;
                case 12: due.add(new Call("feed", draw.nextLong(), to(8))); break;
                case 13:
                    words(madeText());
                    due.add(new Call("text", draw.nextInt(30) == 0 ? to(1) : draw.nextInt(2)));
                    break;
                case 14: due.add(new Call("law", to(1), draw.nextInt(40) - 9, draw.nextInt(15), draw.nextInt(8))); break;
                default: due.add(new Call("law", to(1), draw.nextInt(), draw.nextInt(), draw.nextInt())); break;
            }
        }

        private void second(int luck, Model m) {
            switch (luck) {
                case 16: due.add(new Call("years", sound[0] == 0 ? 1 + to(59) : 1 + to(2))); break;
                case 17: due.add(new Call("years", sound[1] == 0 ? to(60) : 1)); break;
                case 18: due.add(new Call("loose", sound[1] == 1 ? to(40) : 1)); break;
                case 19: due.add(new Call("then", to(60), to(1), to(1))); break;
                case 20: due.add(new Call("then", draw.nextInt(8), to(1), to(1))); break;
                case 21: due.add(new Call("meets")); break;
                case 22: due.add(new Call("apart", to(60))); break;
                case 23: due.add(new Call("delayFor", to(draw.nextBoolean() ? 8 : 60))); break;
                case 24: due.add(new Call("powerFor", to(1), to(draw.nextBoolean() ? 8 : 60), to(draw.nextBoolean() ? 5 : 14))); break;
                case 25: due.add(new Call("needless", to(draw.nextBoolean() ? 8 : 60))); break;
                case 26: truth(m); break;
                case 27: due.add(new Call("heard", to(3), to(1), to(1))); break;
                case 28: due.add(new Call("which", to(3), who(m))); break;
                case 29: due.add(new Call("join", to(63), to(63))); break;
                case 30: due.add(new Call("steps", m.someDug(draw), m.someDug(draw))); break;
                default: due.add(new Call("steps", to(63), to(63))); break;
            }
        }

        private void third(int luck, Model m) {
            switch (luck) {
                case 32: due.add(new Call("hand", draw.nextInt(6) == 0 ? to(63) : m.someDug(draw), to(3), to(200))); break;
                case 33: due.add(new Call("parts")); break;
                case 34: due.add(new Call("odds", to(30), to(draw.nextBoolean() ? 5 : 14), to(1))); break;
                case 35: due.add(new Call("seed", draw.nextInt())); break;
                case 36:
                    due.add(new Call("voice", who(m), to(3), draw.nextBoolean() ? draw.nextInt() : draw.nextInt(20)));
                    for (int i = 0; i < 4; i++) {
                        due.add(new Call("trace", to(10)));
                    }
                    break;
                case 37: due.add(new Call("sheet", to(3), new int[] {0, 8, 16, 32, 32, 8, 7}[draw.nextInt(7)], to(40))); break;
                case 38: due.add(new Call("put", to(3), to(6), draw.nextBoolean() ? draw.nextInt(12) : draw.nextInt())); break;
                case 39: due.add(new Call("move", to(3), to(5), to(3), to(5), to(5))); break;
                case 40: due.add(new Call("rocks", to(3))); break;
                case 41: sides(m); break;
                case 42: due.add(draw.nextBoolean() ? new Call("image") : new Call("restore")); break;
                case 43: due.add(new Call("tell", draw.nextInt())); break;
                case 44: numbers(m); break;
                case 45: due.add(new Call("count", to(10))); break;
                default: due.add(new Call("told", to(5))); break;
            }
        }
    }

    // ---- the model

    private static int[] off(int way) {
        return new int[][] {{-1, 0}, {0, 1}, {1, 0}, {0, -1}}[way];
    }

    private static int go(int cell, int way) {
        int y = cell / 8 + off(way)[0];
        int x = cell % 8 + off(way)[1];
        return y < 0 || x < 0 || y > 7 || x > 7 ? -1 : 8 * y + x;
    }

    private static int far(int a, int b) {
        return Math.abs(a % 8 - b % 8) + Math.abs(a / 8 - b / 8);
    }

    private static int back(int way) {
        return way == 4 ? 4 : way ^ 2;
    }

    private static class Eng {
        int m;
        int side;
        int n;

        int point(World w, int r, int d) {
            if (r == 0 && d == 0) {
                return 4;
            }
            if (Math.abs(r) >= Math.abs(d)) {
                return r > 0 ? 1 : 3;
            }
            return d > 0 ? 2 : 0;
        }

        int ears(World w, int far) {
            return 2;
        }

        int knocks(List<Integer> t, int x) {
            t.add(10);
            return x + n;
        }

        int hears(List<Integer> t, int x) {
            t.add(11);
            return knocks(t, x) * 2;
        }

        int digs(List<Integer> t, int x) {
            t.add(12);
            return x - m;
        }

        int tells(List<Integer> t, int x) {
            t.add(13);
            return hears(t, x) ^ digs(t, x);
        }

        int kind() {
            return List.of(Eng.class, Surv.class, Dream.class, Fore.class, Plumb.class, Echo.class, Clerk.class).indexOf(getClass());
        }

        Eng as(int kind) {
            Eng e = make(kind);
            e.m = m;
            e.side = side;
            e.n = n;
            return e;
        }

        static Eng make(int kind) {
            switch (kind) {
                case 0: return new Eng();
                case 1: return new Surv();
                case 2: return new Dream();
                case 3: return new Fore();
                case 4: return new Plumb();
                case 5: return new Echo();
                default: return new Clerk();
            }
        }
    }

    private static class Surv extends Eng {
        @Override
        int point(World w, int r, int d) {
            return d != 0 ? d > 0 ? 2 : 0 : super.point(w, r, d);
        }

        @Override
        int ears(World w, int far) {
            return super.ears(w, far) + m / 3;
        }

        @Override
        int knocks(List<Integer> t, int x) {
            t.add(20);
            return super.knocks(t, x) * 3;
        }
    }

    private static class Dream extends Eng {
        @Override
        int point(World w, int r, int d) {
            int way = super.point(w, r, d);
            return w.year % 5 == m % 5 ? back(way) : way;
        }

        @Override
        int ears(World w, int far) {
            return 1;
        }

        @Override
        int hears(List<Integer> t, int x) {
            t.add(30);
            return super.hears(t, x) - digs(t, 1);
        }
    }

    private static class Fore extends Eng {
        @Override
        int point(World w, int r, int d) {
            int way = super.point(w, r, d);
            return way < 4 && m > w.year % 10 ? (way == 3 ? 0 : way + 1) : way;
        }

        @Override
        int ears(World w, int far) {
            return 2 * super.ears(w, far);
        }

        @Override
        int digs(List<Integer> t, int x) {
            t.add(40);
            return -super.digs(t, x);
        }
    }

    private static class Plumb extends Surv {
        @Override
        int point(World w, int r, int d) {
            return Math.abs(r) + Math.abs(d) > m && w.last[side] < 4 ? w.last[side] : super.point(w, r, d);
        }

        @Override
        int ears(World w, int far) {
            return super.ears(w, far) + (w.year % 2 == 0 ? 1 : 0);
        }

        @Override
        int tells(List<Integer> t, int x) {
            t.add(50);
            return super.tells(t, x) - knocks(t, 2);
        }
    }

    private static class Echo extends Dream {
        @Override
        int point(World w, int r, int d) {
            return back(super.point(w, r, d));
        }

        @Override
        int ears(World w, int far) {
            return far > m ? super.ears(w, far) : 0;
        }

        @Override
        int hears(List<Integer> t, int x) {
            t.add(60);
            return super.hears(t, x + 1);
        }
    }

    private static class Clerk extends Fore {
        @Override
        int point(World w, int r, int d) {
            return w.year % 2 == 0 ? 4 : super.point(w, r, d);
        }

        @Override
        int ears(World w, int far) {
            return super.ears(w, far) / 2;
        }

        @Override
        int digs(List<Integer> t, int x) {
            t.add(70);
            return super.digs(t, x) ^ n;
        }

        @Override
        int tells(List<Integer> t, int x) {
            t.add(71);
            return hears(t, x) - super.tells(t, x);
        }
    }

    private static final class World {
        int[] rock = new int[64];
        boolean[] dug = new boolean[64];
        int[] at = {24, 31};
        int[] power = {5, 5};
        int[] work = new int[2];
        int[] last = {4, 4};
        int delay = 2;
        int year;
        /** Where each was as each year began, the latest last. */
        List<List<Integer>> been = new ArrayList<>(List.of(new ArrayList<>(List.of(24)), new ArrayList<>(List.of(31))));

        World copy() {
            World w = new World();
            w.rock = rock.clone();
            w.dug = dug.clone();
            w.at = at.clone();
            w.power = power.clone();
            w.work = work.clone();
            w.last = last.clone();
            w.delay = delay;
            w.year = year;
            w.been = new ArrayList<>();
            for (List<Integer> b : been) {
                w.been.add(new ArrayList<>(b.subList(Math.max(0, b.size() - 12), b.size())));
            }
            return w;
        }

        void put(int head, int cell) {
            at[head] = cell;
            dug[cell] = true;
            been.set(head, new ArrayList<>(List.of(cell)));
        }

        int far() {
            return ModelTest.far(at[0], at[1]);
        }

        int hears(int head) {
            List<Integer> b = been.get(1 - head);
            return b.get(Math.max(0, b.size() - 1 - delay));
        }

        int point(Eng e) {
            int heard = hears(e.side);
            return e.point(this, heard % 8 - at[e.side] % 8, heard / 8 - at[e.side] / 8);
        }

        int weight(Eng e, String[] texts) {
            int off = ModelTest.far(hears(e.side), at[e.side]);
            return use(texts, 0, e.ears(this, off), off, year % 8);
        }

        int hearkens(int head, List<Eng> crew, String[] texts) {
            int[] sums = new int[5];
            for (Eng e : crew) {
                if (e != null && e.side == head) {
                    sums[point(e)] += weight(e, texts);
                }
            }
            int best = 0;
            for (int way = 3; way >= 0; way--) {
                best = sums[way] >= sums[best] ? way : best;
            }
            return sums[best] == 0 ? 4 : best;
        }

        void year(List<Eng> crew, String[] texts) {
            int[] ways = {hearkens(0, crew, texts), hearkens(1, crew, texts)};
            boolean met = at[0] == at[1];
            for (int head = 0; head < 2 && !met; head++) {
                if (ways[head] == 4 || go(at[head], ways[head]) < 0) {
                    continue;
                }
                int cell = go(at[head], ways[head]);
                if (!dug[cell]) {
                    work[head] = Math.min(99, work[head] + use(texts, 1, power[head], rock[cell], work[head]));
                    dug[cell] = work[head] >= rock[cell];
                }
                if (dug[cell]) {
                    at[head] = cell;
                    work[head] = 0;
                    last[head] = ways[head];
                }
            }
            year++;
            for (int head = 0; head < 2; head++) {
                been.get(head).add(at[head]);
            }
        }
    }

    private static int use(String[] texts, int use, int a, int b, int c) {
        int v = texts[use] == null ? a : new Sum(texts[use], use == 0 ? "edy" : "prw", a, b, c).top();
        return v < 0 ? 0 : v > 20 ? 20 : v;
    }

    /** Works a sound text out as it stands, by splitting at the sign that binds least, the last such one. */
    private static final class Sum {
        private final String text;
        private final String names;
        private final int[] worth;

        Sum(String text, String names, int a, int b, int c) {
            this.text = text;
            this.names = names;
            worth = new int[] {a, b, c};
        }

        int top() {
            return of(0, text.length());
        }

        private int of(int from, int to) {
            for (String signs : new String[] {"|", "&", "<=>", "+-", "*/%"}) {
                int depth = 0;
                for (int i = to - 1; i > from; i--) {
                    char c = text.charAt(i);
                    depth += c == ')' ? 1 : c == '(' ? -1 : 0;
                    if (depth == 0 && signs.indexOf(c) >= 0) {
                        return joined(c, of(from, i), of(i + 1, to));
                    }
                }
            }
            char c = text.charAt(from);
            if (c == '!') {
                return of(from + 1, to) == 0 ? 1 : 0;
            }
            if (c == '(') {
                return of(from + 1, to - 1);
            }
            return names.indexOf(c) >= 0 ? worth[names.indexOf(c)] : Integer.parseInt(text.substring(from, to));
        }

        private static int joined(char c, int a, int b) {
            switch (c) {
                case '|': return (a == 0 ? 0 : 1) | (b == 0 ? 0 : 1);
                case '&': return (a == 0 ? 0 : 1) & (b == 0 ? 0 : 1);
                case '<': return a < b ? 1 : 0;
                case '=': return a == b ? 1 : 0;
                case '>': return a > b ? 1 : 0;
                case '+': return a + b;
                case '-': return a - b;
                case '*': return a * b;
                case '/': return b == 0 ? 0 : (int) ((long) a / b);
                default: return b == 0 ? 0 : (int) ((long) a % b);
            }
        }
    }

    /** The FAULT by one pass with what is open on a stack; -1 if there is none. */
    private static int fault(List<Integer> tape, String names) {
        // On the stack: '!' or '(' as they are open; compared holds one flag for each '(' and one for all.
        StringBuilder open = new StringBuilder();
        List<Boolean> compared = new ArrayList<>(List.of(false));
        boolean wants = true;
        int digits = 0;
        for (int i = 0; i < tape.size(); i++) {
            int b = tape.get(i);
            char c = (char) b;
            boolean digit = b >= '0' && b <= '9';
            int top = compared.size() - 1;
            if (wants) {
                if (digit || names.indexOf(c) >= 0) {
                    wants = false;
                    digits = digit ? 1 : 4;
                    closeNots(open);
                } else if ((c == '!' || c == '(') && open.length() < 5) {
                    open.append(c);
                    if (c == '(') {
                        compared.add(false);
                    }
                } else {
                    return i;
                }
            } else if (digit && digits < 4) {
                digits++;
            } else if (c == ')' && open.length() > 0) {
                open.setLength(open.length() - 1);
                compared.remove(top);
                closeNots(open);
                digits = 4;
            } else if ("<=>".indexOf(c) >= 0 && !compared.get(top)) {
                compared.set(top, true);
                wants = true;
            } else if ("|&".indexOf(c) >= 0) {
                compared.set(top, false);
                wants = true;
            } else if ("+-*/%".indexOf(c) >= 0) {
                wants = true;
            } else {
                return i;
            }
        }
        return wants || open.length() > 0 ? tape.size() : -1;
    }

    private static void closeNots(StringBuilder open) {
        while (open.length() > 0 && open.charAt(open.length() - 1) == '!') {
            open.setLength(open.length() - 1);
        }
    }

    private static final class Kept {
        World w;
        List<Eng> crew;
        String[] texts;
        List<Integer> tape;
        List<Integer> waiting;
        int z;
    }

    private static final class Model {
        World w = new World();
        List<Eng> crew = new ArrayList<>();
        String[] texts = new String[2];
        List<Integer> tape = new ArrayList<>();
        List<Integer> waiting = new ArrayList<>();
        int z = 1;
        Kept kept;
        int images;
        List<Integer> trace = new ArrayList<>();
        int[][] sheets = new int[4][];
        int[] bits = new int[4];
        int[] told = new int[6];

        Model() {
            for (int i = 0; i < 64; i++) {
                w.rock[i] = i % 10;
            }
            w.dug[24] = true;
            w.dug[31] = true;
        }

        int someDug(Random draw) {
            int from = draw.nextInt(64);
            for (int i = 0; i < 64; i++) {
                if (w.dug[(from + i) % 64]) {
                    return (from + i) % 64;
                }
            }
            return from;
        }

        int err(int e) {
            told[LOW - e]++;
            return e;
        }

        boolean in(int v, int from, int to) {
            return v >= from && v <= to;
        }

        boolean is(int engineer) {
            return in(engineer, 0, crew.size() - 1);
        }

        int rock(int cell, int v) {
            if (!in(cell, 0, 63) || !in(v, 0, 9)) return err(BEYOND);
            int was = w.rock[cell];
            w.rock[cell] = v;
            return was;
        }

        int dig(int cell, int v) {
            if (!in(cell, 0, 63) || !in(v, 0, 1)) return err(BEYOND);
            if (v == 0 && (w.at[0] == cell || w.at[1] == cell)) return err(STATE);
            int was = w.dug[cell] ? 1 : 0;
            w.dug[cell] = v == 1;
            return was;
        }

        int ofCell(int cell, int what) {
            if (!in(cell, 0, 63) || !in(what, 0, 2)) return err(BEYOND);
            if (what == 0) return w.rock[cell];
            if (what == 1) return w.dug[cell] ? 1 : 0;
            return (w.at[0] == cell ? 1 : 0) + (w.at[1] == cell ? 2 : 0);
        }

        int head(int head, int what, int v) {
            if (!in(head, 0, 1) || !in(what, 0, 2)) return err(BEYOND);
            if (!in(v, 0, new int[] {63, 20, 99}[what])) return err(BEYOND);
            int[] row = what == 0 ? w.at : what == 1 ? w.power : w.work;
            int was = row[head];
            row[head] = v;
            if (what == 0) w.put(head, v);
            return was;
        }

        int ofHead(int head, int what) {
            if (!in(head, 0, 1) || !in(what, 0, 5)) return err(BEYOND);
            return new int[] {w.at[head], w.power[head], w.work[head], w.last[head], w.hearkens(head, crew, texts), w.hears(head)}[what];
        }

        int delay(int v) {
            if (!in(v, 0, 9)) return err(BEYOND);
            int was = w.delay;
            w.delay = v;
            return was;
        }

        int engineer(int km, int side) {
            if (!in(km, 0, 69) || !in(side, 0, 1)) return err(BEYOND);
            if (crew.size() == 8) return err(FULL);
            Eng e = Eng.make(km / 10);
            e.m = km % 10;
            e.side = side;
            e.n = crew.size();
            crew.add(e);
            return e.n;
        }

        int ofEngineer(int engineer, int what) {
            if (!is(engineer) || !in(what, 0, 4)) return err(BEYOND);
            Eng e = crew.get(engineer);
            return new int[] {e.kind(), e.m, e.side, w.point(e), w.weight(e, texts)}[what];
        }

        int change(int engineer, int v) {
            if (!is(engineer) || !in(v, 0, 1)) return err(BEYOND);
            int was = crew.get(engineer).side;
            crew.get(engineer).side = v;
            return was;
        }

        int become(int engineer, int km) {
            if (!is(engineer) || !in(km, 0, 69)) return err(BEYOND);
            Eng e = crew.get(engineer);
            crew.set(engineer, e.as(km / 10));
            crew.get(engineer).m = km % 10;
            return e.kind();
        }

        int as(int engineer, int kind) {
            if (!is(engineer) || !in(kind, 0, 6)) return err(BEYOND);
            Eng e = crew.get(engineer);
            return Eng.make(kind).getClass().isInstance(e) ? e.m : err(KIND);
        }

        int feed(long word, int n) {
            if (!in(n, 1, 8)) return err(BEYOND);
            if (tape.size() + n > 50) return err(FULL);
            for (int i = 0; i < n; i++) {
                tape.add((int) (word & 255));
                word >>= 8;
            }
            return tape.size();
        }

        int text(int use) {
            if (!in(use, 0, 1)) return err(BEYOND);
            int fault = fault(tape, use == 0 ? "edy" : "prw");
            if (fault < 0) {
                StringBuilder text = new StringBuilder();
                for (int b : tape) text.append((char) b);
                texts[use] = text.toString();
            }
            tape.clear();
            return fault < 0 ? 1 : -10 - fault;
        }

        int law(int use, int a, int b, int c) {
            return in(use, 0, 1) ? use(texts, use, a, b, c) : err(BEYOND);
        }

        int years(int n) {
            if (!in(n, 1, 60)) return err(BEYOND);
            if (w.year + n > 9999) return err(STATE);
            for (int i = 0; i < n; i++) w.year(crew, texts);
            return w.far();
        }

        int drawn() {
            z = (int) (z * 1103515245L + 12345L);
            return (int) ((z & 0xFFFFFFFFL) >> 8);
        }

        int loose(int n) {
            if (!in(n, 1, 40)) return err(BEYOND);
            if (w.year + n > 9999) return err(STATE);
            for (int i = 0; i < n; i++) {
                int cell = drawn() % 64;
                w.rock[cell] = drawn() % 10;
                w.year(crew, texts);
            }
            return w.far();
        }

        World behind(World from, List<Eng> with, int n) {
            World t = from.copy();
            for (int i = 0; i < n; i++) t.year(with, texts);
            return t;
        }

        int then(int n, int head, int what) {
            if (!in(n, 0, 60) || !in(head, 0, 1) || !in(what, 0, 1)) return err(BEYOND);
            World t = behind(w, crew, n);
            return what == 0 ? t.at[head] : t.work[head];
        }

        int meets() {
            for (int n = 0; n <= 60; n++) {
                if (behind(w, crew, n).far() == 0) return n;
            }
            return err(NONE);
        }

        int apart(int n) {
            return in(n, 0, 60) ? behind(w, crew, n).far() : err(BEYOND);
        }

        int byDelay(int delay, int n) {
            World t = w.copy();
            t.delay = delay;
            return behind(t, crew, n).far();
        }

        int delayFor(int n) {
            if (!in(n, 0, 60)) return err(BEYOND);
            List<Integer> gaps = new ArrayList<>();
            for (int v = 0; v < 10; v++) gaps.add(byDelay(v, n));
            return gaps.indexOf(Collections.min(gaps));
        }

        int powerFor(int head, int n, int v) {
            if (!in(head, 0, 1) || !in(n, 0, 60) || !in(v, 0, 14)) return err(BEYOND);
            for (int p = 0; p <= 20; p++) {
                World t = w.copy();
                t.power[head] = p;
                if (behind(t, crew, n).far() <= v) return p;
            }
            return err(NONE);
        }

        int needless(int n) {
            if (!in(n, 0, 60)) return err(BEYOND);
            int set = 0;
            int gap = behind(w, crew, n).far();
            for (int i = 0; i < crew.size(); i++) {
                List<Eng> others = new ArrayList<>(crew);
                others.set(i, null);
                if (behind(w, others, n).far() <= gap) set += 1 << i;
            }
            return set;
        }

        boolean told(World from, List<Eng> with, int[] cells, int head) {
            World t = from.copy();
            for (int cell : cells) {
                t.year(with, texts);
                if (t.at[head] != cell) return false;
            }
            return true;
        }

        int heard(int sheet, int head, int what) {
            if (!in(sheet, 0, 3) || !in(head, 0, 1) || !in(what, 0, 1)) return err(BEYOND);
            if (sheets[sheet] == null) return err(NONE);
            List<Integer> cells = new ArrayList<>();
            for (int cell = 0; cell < 64; cell++) {
                World t = w.copy();
                t.put(1 - head, cell);
                if (told(t, crew, sheets[sheet], head)) cells.add(cell);
            }
            if (what == 0) return cells.size();
            return cells.isEmpty() ? err(NONE) : cells.get(0);
        }

        int which(int sheet, int engineer) {
            if (!in(sheet, 0, 3) || !is(engineer)) return err(BEYOND);
            if (sheets[sheet] == null) return err(NONE);
            int set = 0;
            for (int kind = 0; kind < 7; kind++) {
                List<Eng> others = new ArrayList<>(crew);
                others.set(engineer, crew.get(engineer).as(kind));
                if (told(w, others, sheets[sheet], crew.get(engineer).side)) set += 1 << kind;
            }
            return set;
        }

        /** Sweeps till nothing gets less; walls are what can't be entered. */
        int[] prices(int from, int[] toll, int first) {
            int[] price = new int[64];
            Arrays.fill(price, 1 << 20);
            price[from] = first;
            for (boolean less = true; less; ) {
                less = false;
                for (int cell = 0; cell < 64; cell++) {
                    for (int way = 0; way < 4; way++) {
                        int next = go(cell, way);
                        if (next >= 0 && price[cell] + toll[next] < price[next]) {
                            price[next] = price[cell] + toll[next];
                            less = true;
                        }
                    }
                }
            }
            return price;
        }

        int join(int a, int b) {
            if (!in(a, 0, 63) || !in(b, 0, 63)) return err(BEYOND);
            int[] toll = new int[64];
            for (int i = 0; i < 64; i++) toll[i] = w.dug[i] ? 0 : w.rock[i];
            return prices(a, toll, toll[a])[b];
        }

        int[] ways(int from) {
            int[] toll = new int[64];
            for (int i = 0; i < 64; i++) toll[i] = w.dug[i] ? 1 : 1 << 20;
            return prices(from, toll, 0);
        }

        int steps(int a, int b) {
            if (!in(a, 0, 63) || !in(b, 0, 63)) return err(BEYOND);
            if (!w.dug[a] || !w.dug[b] || ways(a)[b] >= 64) return err(NONE);
            return ways(a)[b];
        }

        int hand(int cell, int way, int n) {
            if (!in(cell, 0, 63) || !in(way, 0, 3) || !in(n, 0, 200)) return err(BEYOND);
            if (!w.dug[cell]) return err(STATE);
            for (int i = 0; i < n; i++) {
                int left = way == 0 ? 3 : way - 1;
                int right = way == 3 ? 0 : way + 1;
                for (int tried : new int[] {left, way, right, back(way)}) {
                    int next = go(cell, tried);
                    if (next >= 0 && w.dug[next]) {
                        cell = next;
                        way = tried;
                        break;
                    }
                }
            }
            return cell;
        }

        int parts() {
            int parts = 0;
            for (int cell = 0; cell < 64; cell++) {
                if (!w.dug[cell]) continue;
                int[] price = ways(cell);
                boolean first = true;
                for (int before = 0; before < cell; before++) first &= price[before] >= 64;
                parts += first ? 1 : 0;
            }
            return parts;
        }

        int odds(int n, int v, int part) {
            if (!in(n, 0, 30) || !in(v, 0, 14) || !in(part, 0, 1)) return err(BEYOND);
            int good = 0;
            for (int d = 0; d < 10; d++) good += byDelay(d, n) <= v ? 1 : 0;
            int[][] lowest = {{0, 1}, {1, 10}, {1, 5}, {3, 10}, {2, 5}, {1, 2}, {3, 5}, {7, 10}, {4, 5}, {9, 10}, {1, 1}};
            return lowest[good][part];
        }

        int seed(int v) {
            int was = z;
            z = v;
            return was;
        }

        int voice(int engineer, int act, int x) {
            if (!is(engineer) || !in(act, 0, 3)) return err(BEYOND);
            trace = new ArrayList<>();
            Eng e = crew.get(engineer);
            switch (act) {
                case 0: return e.knocks(trace, x);
                case 1: return e.hears(trace, x);
                case 2: return e.digs(trace, x);
                default: return e.tells(trace, x);
            }
        }

        int trace(int i) {
            return in(i, 0, Math.min(40, trace.size()) - 1) ? trace.get(i) : err(NONE);
        }

        int sheet(int sheet, int b, int n) {
            if (!in(sheet, 0, 3) || !List.of(0, 8, 16, 32).contains(b)) return err(BEYOND);
            if (b > 0 && n < 0) return err(STATE);
            if (b > 0 && n > 40) return err(BEYOND);
            sheets[sheet] = b == 0 ? null : new int[n];
            bits[sheet] = b;
            return 1;
        }

        int put(int sheet, int i, int v) {
            if (!in(sheet, 0, 3)) return err(BEYOND);
            if (sheets[sheet] == null) return err(NONE);
            if (!in(i, 0, sheets[sheet].length - 1)) return err(BEYOND);
            sheets[sheet][i] = bits[sheet] == 8 ? (byte) v : bits[sheet] == 16 ? (short) v : v;
            return 1;
        }

        int move(int sheet, int i, int other, int j, int n) {
            if (!in(sheet, 0, 3) || !in(other, 0, 3)) return err(BEYOND);
            if (sheets[sheet] == null || sheets[other] == null) return err(NONE);
            if (bits[sheet] != bits[other]) return err(KIND);
            try {
                System.arraycopy(sheets[sheet], i, sheets[other], j, n);
            } catch (IndexOutOfBoundsException e) {
                return err(BEYOND);
            }
            return n;
        }

        int rocks(int sheet) {
            if (!in(sheet, 0, 3)) return err(BEYOND);
            if (sheets[sheet] == null) return err(NONE);
            int i = 0;
            while (i < sheets[sheet].length && in(sheets[sheet][i], 0, 9)) {
                w.rock[i] = sheets[sheet][i];
                i++;
            }
            return i;
        }

        int judge(int sheet) {
            if (!in(sheet, 0, 3)) return err(BEYOND);
            if (sheets[sheet] == null) return err(NONE);
            int[] sides = new int[crew.size()];
            for (int i = 0; i < sides.length; i++) sides[i] = crew.get(i).side;
            return Arrays.mismatch(sides, sheets[sheet]);
        }

        private static List<Eng> same(List<Eng> crew) {
            List<Eng> copy = new ArrayList<>();
            for (Eng e : crew) copy.add(e.as(e.kind()));
            return copy;
        }

        int image() {
            kept = new Kept();
            kept.w = w.copy();
            kept.crew = same(crew);
            kept.texts = texts.clone();
            kept.tape = new ArrayList<>(tape);
            kept.waiting = new ArrayList<>(waiting);
            kept.z = z;
            return ++images;
        }

        int restore() {
            if (kept == null) return err(NONE);
            w = kept.w.copy();
            crew = same(kept.crew);
            texts = kept.texts.clone();
            tape = new ArrayList<>(kept.tape);
            waiting = new ArrayList<>(kept.waiting);
            z = kept.z;
            return w.year;
        }

        int tell(int v) {
            if (waiting.size() == 20) return err(FULL);
            waiting.add(v);
            return waiting.size();
        }

        int check() {
            List<Integer> said = waiting;
            waiting = new ArrayList<>();
            for (int i = 0; i < said.size(); i++) {
                if (behind(w, crew, i + 1).far() != said.get(i)) return 1 + i;
            }
            return 0;
        }

        int count(int what) {
            switch (what) {
                case 0: return crew.size();
                case 1: return w.year;
                case 2: return w.delay;
                case 3: return w.far();
                case 4: {
                    int n = 0;
                    for (boolean d : w.dug) n += d ? 1 : 0;
                    return n;
                }
                case 5: return Arrays.stream(w.rock).sum();
                case 6: return (int) crew.stream().filter(e -> e.side == 1).count();
                case 7: return tape.size();
                case 8: return waiting.size();
                case 9: return Math.min(40, trace.size());
                case 10: return z;
                default: return err(BEYOND);
            }
        }

        int told(int k) {
            return in(k, 1, 5) ? told[k] : err(BEYOND);
        }
    }
}
