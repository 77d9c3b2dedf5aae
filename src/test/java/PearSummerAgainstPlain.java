import java.util.ArrayList;
import java.util.Arrays;
import java.util.List;
import java.util.Random;
import java.util.regex.Matcher;
import java.util.regex.Pattern;

/**
 * Random runs of calls on PearSummer and on Plain, a second model that is written from the document
 * in another way (texts read by a regular expression and split anew at each hour, all sets tried,
 * typed arrays): every answer of the two must be the same, and neither may throw.
 */
public final class PearSummerAgainstPlain {
    private static final int RUNS = 1000;
    private static final int MOST_CALLS = 512;
    private static final int[] EXTREMES = {
        Integer.MIN_VALUE, Integer.MAX_VALUE, -10001, -2, -1, 0, 1, 6, 7, 10, 12, 22, 31, 60, 61, 100, 4095, 4096, 9999,
        10000, Integer.MAX_VALUE - 1, Integer.MIN_VALUE + 1
    };

    private final Random random;
    private final PearSummer real = new PearSummer();
    private final Plain plain = new Plain();
    private final List<String> calls = new ArrayList<>();
    private boolean wrong;

    private PearSummerAgainstPlain(long seed) {
        random = new Random(seed);
    }

    public static void main(String[] args) {
        int failed = 0;
        for (int run = 0; run < RUNS && failed < 3; run++) {
            PearSummerAgainstPlain test = new PearSummerAgainstPlain(run);
            test.go(run % 10);
            if (test.wrong) {
                failed++;
                System.out.println("run " + run + ": " + String.join("; ", test.calls));
            }
        }
        System.out.println(failed == 0 ? RUNS + " runs agree with the plain model" : failed + " runs do not agree");
        if (failed != 0) {
            System.exit(1);
        }
    }

    private void go(int sort) {
        if (sort == 0) {
            growAll();
            for (int i = 0; i < 166; i++) {
                pass(60);
            }
            for (int i = 0; i < 6; i++) {
                set(i, 1, 9990 + random.nextInt(10));
            }
        } else if (sort < 7) {
            growAll();
        }
        if (random.nextInt(4) != 0) {
            feedAll(aWall());
            wall();
        }
        while (calls.size() < MOST_CALLS && !wrong) {
            step();
        }
    }

    private void growAll() {
        int many = 1 + random.nextInt(6);
        for (int i = 0; i < many; i++) {
            fruit(random.nextInt(7), random.nextInt(10));
        }
    }

    private void step() {
        switch (random.nextInt(40)) {
            case 0: fruit(about(7), about(10)); break;
            case 1: case 2: case 3: of(about(6), about(22)); break;
            case 4: cut(about(6), random.nextInt(3) == 0); break;
            case 5: setSome(); break;
            case 6: row(about(6), about(4), about(10)); break;
            case 7: feed(random.nextInt(20) == 0 ? about(128) : "sunhade ripe|&!()<=>;0123456789pkvhrd".charAt(random.nextInt(37))); break;
            case 8: wallSome(); break;
            case 9: told(about(22)); break;
            case 10: pass(random.nextInt(4) == 0 ? about(61) : random.nextInt(3)); break;
            case 11: case 12: on(about(31), onWhat()); break;
            case 13: case 14: clear(about(6), hours()); break;
            case 15: case 16: help(about(6), about(2)); break;
            case 17: want(random.nextInt(20) == 0 ? -1 : hours()); break;
            case 18: case 19: sent(about(8) - 1); break;
            case 20: seeSome(); break;
            case 21: case 22: can(about(6), about(2)); break;
            case 23: which(about(2)); break;
            case 24: case 25: odds(about(6), about(12), about(2)); break;
            case 26: mean(about(2)); break;
            case 27: plan(random.nextInt(20) == 0 ? -1 : about(4), about(6)); break;
            case 28: ends(about(2)); break;
            case 29: bookSome(); break;
            case 30: looked(); break;
            case 31: judgeSome(); break;
            case 32: if (random.nextInt(3) == 0) { image(); } else { count(about(8)); } break;
            case 33: if (random.nextInt(3) == 0) { undo(); } else { count(about(8)); } break;
            case 34: actSome(); break;
            case 35: taken(about(6), about(7)); break;
            case 36: tape(about(6), about(6) - 1, random.nextInt(4) == 0 ? about(61) : random.nextInt(8)); break;
            case 37: item(about(6), about(7), random.nextInt(3) == 0 ? random.nextLong() : random.nextInt(2)); break;
            case 38: read(about(6), about(7)); break;
            default: shift(about(6), about(4), about(6), about(4), about(6)); break;
        }
    }

    /** Mostly 0 .. n - 1, now and then just beyond, or anything. */
    private int about(int n) {
        int luck = random.nextInt(60);
        if (luck == 0) {
            return EXTREMES[random.nextInt(EXTREMES.length)];
        }
        return luck == 1 ? -1 : luck == 2 ? n : random.nextInt(n);
    }

    private int hours() {
        int luck = random.nextInt(30);
        if (luck == 0) {
            return EXTREMES[random.nextInt(EXTREMES.length)];
        }
        if (luck < 18) {
            return 1 << random.nextInt(12) | (luck < 6 ? 1 << random.nextInt(12) : 0);
        }
        return luck < 20 ? 0 : random.nextInt(4096);
    }

    private int onWhat() {
        int luck = random.nextInt(12);
        if (luck == 0) {
            return about(40);
        }
        return luck == 1 ? 0 : luck < 6 ? 10 + about(6) : 20 + about(6);
    }

    private void setSome() {
        int what = about(2);
        set(about(6), what, what == 0 ? hours() : random.nextBoolean() ? about(10000) : random.nextInt(120));
    }

    private void wallSome() {
        if (random.nextInt(3) != 0) {
            return;
        }
        String text = aWall();
        if (random.nextInt(3) == 0) {
            int at = random.nextInt(text.length());
            text = text.substring(0, at) + "sunhade ripe|&!()<=>;0123456789pkvhrd".charAt(random.nextInt(37))
                + text.substring(at + random.nextInt(2));
        }
        feedAll(text);
        wall();
    }

    private void feedAll(String text) {
        for (int i = 0; i < text.length() && calls.size() < MOST_CALLS - 1; i++) {
            feed(text.charAt(i));
        }
    }

    private void seeSome() {
        int fruit = random.nextInt(12) == 0 ? -1 : about(6);
        boolean isSo = fruit >= 0 && fruit < plain.tree.fruit.size() && random.nextInt(4) != 0;
        see(fruit, isSo ? plain.of(fruit, 5) : hours());
    }

    private void bookSome() {
        int fruit = random.nextInt(12) == 0 ? -1 : about(6);
        boolean isSo = fruit >= 0 && fruit < plain.tree.fruit.size() && random.nextInt(4) != 0;
        book(fruit, isSo ? plain.of(fruit, 3) : hours());
    }

    private void judgeSome() {
        int tape = about(6);
        int from = random.nextInt(3);
        if (random.nextInt(3) != 0 && tape >= 0 && tape < 6) {
            tape(tape, 2, random.nextInt(10));
            for (int i = 0; i < plain.tree.fruit.size() && calls.size() < MOST_CALLS - 2; i++) {
                item(tape, from + i, plain.of(i, 3) + (random.nextInt(15) == 0 ? 1 : 0));
            }
        }
        judge(tape, random.nextInt(10) == 0 ? about(60) : from);
    }

    private void actSome() {
        act(about(6), about(3), random.nextInt(4) == 0 ? random.nextInt() : random.nextInt(20));
        count(7);
        trace(about(13));
        trace(random.nextInt(8));
    }

    private String aWall() {
        StringBuilder wall = new StringBuilder();
        int many = random.nextInt(12) == 0 ? 8 + random.nextInt(4) : 1 + random.nextInt(4);
        for (int i = 0; i < many; i++) {
            wall.append(i == 0 ? "" : ";");
            int luck = random.nextInt(5);
            if (luck == 0 || many > 6) {
                wall.append("ripe ").append(aNumber(99));
            } else {
                wall.append(luck < 3 ? "sun " : "shade ").append(aNumber(random.nextInt(3) == 0 ? 99 : 12)).append(' ');
                addEither(wall, 0);
            }
        }
        return wall.length() > 105 ? "sun 3 v>4" : wall.toString();
    }

    private String aNumber(int most) {
        int n = random.nextInt(most + 1);
        return n < 10 && random.nextInt(6) == 0 ? "0" + n : "" + n;
    }

    private void addEither(StringBuilder wall, int nest) {
        addOne(wall, nest);
        while (random.nextInt(3) == 0) {
            wall.append(random.nextBoolean() ? '|' : '&');
            addOne(wall, nest);
        }
    }

    private void addOne(StringBuilder wall, int nest) {
        int luck = nest > 5 ? 9 : random.nextInt(nest == 0 ? 8 : 5);
        if (luck == 0) {
            wall.append('!');
            addOne(wall, nest + 1);
        } else if (luck == 1) {
            wall.append('(');
            addEither(wall, nest + 1);
            wall.append(')');
        } else {
            char letter = "pkvhrd".charAt(random.nextInt(6));
            wall.append(letter).append("<=>".charAt(random.nextInt(3))).append(aNumber(letter == 'r' ? 30 : letter == 'h' ? 12 : 7));
        }
    }

    private void due(String call, long got, long want) {
        calls.add(call + " " + got);
        if (got != want && !wrong) {
            wrong = true;
            calls.add("<- due is " + want);
        }
    }

    private void fruit(int k, int v) { due("fruit(" + k + ", " + v + ")", real.fruit(k, v), plain.fruit(k, v)); }
    private void of(int f, int w) { due("of(" + f + ", " + w + ")", real.of(f, w), plain.of(f, w)); }
    private void cut(int f, boolean is) { due("cut(" + f + ", " + is + ")", real.cut(f, is), plain.cut(f, is)); }
    private void set(int f, int w, int n) { due("set(" + f + ", " + w + ", " + n + ")", real.set(f, w, n), plain.set(f, w, n)); }
    private void row(int f, int p, int n) { due("row(" + f + ", " + p + ", " + n + ")", real.row(f, p, n), plain.row(f, p, n)); }
    private void feed(int s) { due("feed(" + s + ")", real.feed(s), plain.feed(s)); }
    private void wall() { due("wall() of " + plain.text, real.wall(), plain.wall()); }
    private void told(int w) { due("told(" + w + ")", real.told(w), plain.told(w)); }
    private void pass(int n) { due("pass(" + n + ")", real.pass(n), plain.pass(n)); }
    private void on(int n, int w) { due("on(" + n + ", " + w + ")", real.on(n, w), plain.on(n, w)); }
    private void clear(int f, int h) { due("clear(" + f + ", " + h + ")", real.clear(f, h), plain.clear(f, h)); }
    private void help(int f, int w) { due("help(" + f + ", " + w + ")", real.help(f, w), plain.help(f, w)); }
    private void want(int h) { due("want(" + h + ")", real.want(h), plain.want(h)); }
    private void sent(int k) { due("sent(" + k + ")", real.sent(k), plain.sent(k)); }
    private void see(int f, int h) { due("see(" + f + ", " + h + ")", real.see(f, h), plain.see(f, h)); }
    private void can(int f, int w) { due("can(" + f + ", " + w + ")", real.can(f, w), plain.can(f, w)); }
    private void which(int w) { due("which(" + w + ")", real.which(w), plain.which(w)); }
    private void odds(int f, int h, int p) { due("odds(" + f + ", " + h + ", " + p + ")", real.odds(f, h, p), plain.odds(f, h, p)); }
    private void mean(int p) { due("mean(" + p + ")", real.mean(p), plain.mean(p)); }
    private void plan(int w, int f) { due("plan(" + w + ", " + f + ")", real.plan(w, f), plain.plan(w, f)); }
    private void ends(int w) { due("ends(" + w + ")", real.ends(w), plain.ends(w)); }
    private void book(int f, int h) { due("book(" + f + ", " + h + ")", real.book(f, h), plain.book(f, h)); }
    private void looked() { due("looked()", real.looked(), plain.looked()); }
    private void judge(int t, int i) { due("judge(" + t + ", " + i + ")", real.judge(t, i), plain.judge(t, i)); }
    private void image() { due("image()", real.image(), plain.image()); }
    private void undo() { due("undo()", real.undo(), plain.undo()); }
    private void act(int f, int a, int x) { due("act(" + f + ", " + a + ", " + x + ")", real.act(f, a, x), plain.act(f, a, x)); }
    private void trace(int i) { due("trace(" + i + ")", real.trace(i), plain.trace(i)); }
    private void taken(int f, int k) { due("taken(" + f + ", " + k + ")", real.taken(f, k), plain.taken(f, k)); }
    private void count(int w) { due("count(" + w + ")", real.count(w), plain.count(w)); }
    private void tape(int t, int s, int n) { due("tape(" + t + ", " + s + ", " + n + ")", real.tape(t, s, n), plain.tape(t, s, n)); }
    private void item(int t, int i, long v) { due("item(" + t + ", " + i + ", " + v + ")", real.item(t, i, v), plain.item(t, i, v)); }
    private void read(int t, int i) { due("read(" + t + ", " + i + ")", real.read(t, i), plain.read(t, i)); }
    private void shift(int t, int i, int o, int j, int n) {
        due("shift(" + t + ", " + i + ", " + o + ", " + j + ", " + n + ")", real.shift(t, i, o, j, n), plain.shift(t, i, o, j, n));
    }

    private static final class Fruit {
        int kind, v, had, ripe;
        boolean cut;
        int[] row = new int[4];

        Fruit copy() {
            Fruit f = new Fruit();
            f.kind = kind;
            f.v = v;
            f.had = had;
            f.ripe = ripe;
            f.cut = cut;
            f.row = row.clone();
            return f;
        }
    }

    /** What an image keeps; a copy is tried wherever something is asked. */
    private static final class Tree {
        List<Fruit> fruit = new ArrayList<>();
        int day;
        String wall;
        List<Integer> wants = new ArrayList<>();
        List<int[]> seen = new ArrayList<>(), plan = new ArrayList<>(), book = new ArrayList<>();

        Tree copy() {
            Tree t = new Tree();
            for (Fruit f : fruit) {
                t.fruit.add(f.copy());
            }
            t.day = day;
            t.wall = wall;
            t.wants.addAll(wants);
            t.seen.addAll(seen);
            t.plan.addAll(plan);
            t.book.addAll(book);
            return t;
        }

        int enough() {
            int enough = 30;
            for (String clause : clauses()) {
                String[] parts = clause.split(" ");
                if (parts[0].equals("ripe")) {
                    enough = Integer.parseInt(parts[1]);
                }
            }
            return enough;
        }

        String[] clauses() {
            return wall == null ? new String[0] : wall.split(";");
        }

        int sum(int p, int h) {
            int sum = 5;
            for (String clause : clauses()) {
                String[] parts = clause.split(" ");
                if (!parts[0].equals("ripe") && either(parts[2], p, h)) {
                    sum += (parts[0].equals("sun") ? 1 : -1) * Integer.parseInt(parts[1]);
                }
            }
            return sum;
        }

        /** The place of the first such sign outside of all brackets, or -1. */
        static int split(String e, char sign) {
            int open = 0;
            for (int i = 0; i < e.length(); i++) {
                open += e.charAt(i) == '(' ? 1 : e.charAt(i) == ')' ? -1 : 0;
                if (open == 0 && e.charAt(i) == sign) {
                    return i;
                }
            }
            return -1;
        }

        boolean either(String e, int p, int h) {
            int at = split(e, '|');
            if (at >= 0) {
                return either(e.substring(0, at), p, h) || either(e.substring(at + 1), p, h);
            }
            at = split(e, '&');
            if (at >= 0) {
                return either(e.substring(0, at), p, h) && either(e.substring(at + 1), p, h);
            }
            if (e.charAt(0) == '!') {
                return !either(e.substring(1), p, h);
            }
            if (e.charAt(0) == '(') {
                return either(e.substring(1, e.length() - 1), p, h);
            }
            Fruit f = fruit.get(p);
            int value = List.of(p, f.kind, f.v, h, f.ripe / 10, day % 10).get("pkvhrd".indexOf(e.charAt(0)));
            int n = Integer.parseInt(e.substring(2));
            return e.charAt(1) == '<' ? value < n : e.charAt(1) == '=' ? value == n : value > n;
        }

        int pull(int p, int h) {
            Fruit f = fruit.get(p);
            int sum = sum(p, h);
            int early = sum + (6 - h > 0 ? 6 - h : 0);
            int late = sum + (h - 5 > 0 ? h - 5 : 0);
            int half = sum < 0 ? -(-sum / 2) : sum / 2;
            int bell = (h + f.v) % 3 != 0 ? half : sum;
            switch (f.kind) {
                case 0: return sum;
                case 1: return early;
                case 2: return late;
                case 3: return bell;
                case 4: return p > 0 && !fruit.get(p - 1).cut ? early - 1 : early;
                case 5: return day % 2 == 1 ? 0 : late;
                default: return bell + f.row[h % 4];
            }
        }

        int whose(int h) {
            int who = -5;
            for (int p = fruit.size() - 1; p >= 0; p--) {
                boolean mayHave = !fruit.get(p).cut && pull(p, h) > 0;
                if (mayHave && (who == -5 || pull(p, h) >= pull(who, h))) {
                    who = p;
                }
            }
            return who;
        }

        int hours(int p) {
            int bits = 0;
            for (int h = 0; h < 12; h++) {
                if (whose(h) == p) {
                    bits += 1 << h;
                }
            }
            return bits;
        }

        void day(int most) {
            int[] hours = new int[12];
            for (int h = 0; h < 12; h++) {
                hours[h] = whose(h);
            }
            for (int h = 0; h < 12; h++) {
                if (hours[h] >= 0) {
                    Fruit f = fruit.get(hours[h]);
                    f.had |= 1 << h;
                    f.ripe = f.ripe + 1 > most ? most : f.ripe + 1;
                }
            }
            day++;
        }

        int ripeTogether() {
            return fruit.stream().mapToInt(f -> f.ripe).sum();
        }

        int howManyRipe() {
            return (int) fruit.stream().filter(f -> !f.cut && f.ripe >= enough()).count();
        }

        boolean seenIsSo() {
            for (int[] row : seen) {
                if (hours(row[0]) != row[1]) {
                    return false;
                }
            }
            return true;
        }
    }

    private static final class Plain {
        static final Pattern WALL = Pattern.compile(wallPattern());
        static final int[][] BODIES = {{10, 11, 12}, {0, 20, 0}, {30, 0, 0}, {0, 0, 40}, {50, 51, 0}, {0, 0, 60}, {71, 70, 0}};
        static final int[] PARENT = {-1, 0, 0, 0, 1, 2, 3};

        Tree tree = new Tree();
        Tree image;
        String text = "";
        int walls;
        List<Integer> trace = new ArrayList<>();
        Object[] tapes = new Object[6];

        /** Nesting has a bound, so the walls' texts are a regular language. */
        static String wallPattern() {
            String number = "[0-9][0-9]?";
            String test = "[pkvhrd][<=>]" + number;
            String one = test;
            for (int level = 0; level < 4; level++) {
                String both = "(?:" + one + ")(?:&(?:" + one + "))*";
                String either = both + "(?:\\|" + both + ")*";
                one = test + "|\\((?:" + either + ")\\)|!(?:" + one + ")";
            }
            String both = "(?:" + one + ")(?:&(?:" + one + "))*";
            String either = both + "(?:\\|" + both + ")*";
            String clause = "(?:sun " + number + " " + either + "|shade " + number + " " + either + "|ripe " + number + ")";
            return clause + "(?:;" + clause + "){0,9}";
        }

        /** -1, if it is a wall. */
        static int fault(String text) {
            for (int end = 1; end <= text.length(); end++) {
                Matcher matcher = WALL.matcher(text.substring(0, end));
                if (!matcher.matches() && !matcher.hitEnd()) {
                    return end - 1;
                }
            }
            return WALL.matcher(text).matches() ? -1 : text.length();
        }

        boolean no(int p) {
            return p < 0 || p >= tree.fruit.size();
        }

        boolean noHours(int hours) {
            return hours < 0 || hours > 4095;
        }

        boolean no01(int what) {
            return what != 0 && what != 1;
        }

        int fruit(int kind, int v) {
            if (kind < 0 || kind > 6) return -1;
            if (v < 0 || v > 9) return -2;
            if (tree.fruit.size() == 6) return -4;
            Fruit f = new Fruit();
            f.kind = kind;
            f.v = v;
            tree.fruit.add(f);
            return tree.fruit.size() - 1;
        }

        int of(int p, int what) {
            if (no(p)) return -10001;
            Fruit f = tree.fruit.get(p);
            if (what >= 10 && what <= 21) return tree.pull(p, what - 10);
            switch (what) {
                case 0: return f.kind;
                case 1: return f.v;
                case 2: return f.cut ? 1 : 0;
                case 3: return f.had;
                case 4: return f.ripe;
                case 5: return tree.hours(p);
                case 6: return cutting(63 & ~(1 << p)).hours(p);
                case 7: return when(p);
                default: return -10001;
            }
        }

        Tree cutting(int bits) {
            Tree t = tree.copy();
            for (int i = 0; i < t.fruit.size(); i++) {
                if ((bits >> i & 1) == 1) {
                    t.fruit.get(i).cut = true;
                }
            }
            return t;
        }

        Tree later(int n) {
            Tree t = tree.copy();
            for (int i = 0; i < n; i++) {
                t.day(Integer.MAX_VALUE);
            }
            return t;
        }

        int when(int p) {
            Tree t = tree.copy();
            int days = 0;
            while (days < 30 && t.fruit.get(p).ripe < t.enough()) {
                t.day(Integer.MAX_VALUE);
                days++;
            }
            return t.fruit.get(p).ripe >= t.enough() ? days : -5;
        }

        int cut(int p, boolean is) {
            if (no(p)) return -1;
            boolean was = tree.fruit.get(p).cut;
            tree.fruit.get(p).cut = is;
            return was ? 1 : 0;
        }

        int set(int p, int what, int n) {
            if (no(p) || no01(what)) return -1;
            if (n < 0 || n > (what == 0 ? 4095 : 9999)) return -2;
            Fruit f = tree.fruit.get(p);
            int was = what == 0 ? f.had : f.ripe;
            if (what == 0) {
                f.had = n;
            } else {
                f.ripe = n;
            }
            return was;
        }

        int row(int p, int part, int n) {
            if (no(p) || part < 0 || part > 3) return -1;
            if (n < 0 || n > 9) return -2;
            if (tree.fruit.get(p).kind != 6) return -3;
            int was = tree.fruit.get(p).row[part];
            tree.fruit.get(p).row[part] = n;
            return was;
        }

        int feed(int sign) {
            if (sign < 0 || sign > 127) return -2;
            if (text.length() == 100) return -4;
            text += (char) sign;
            return text.length();
        }

        int wall() {
            if (walls == 6) return -4;
            int fault = fault(text);
            if (fault == -1) {
                tree.wall = text;
                walls++;
            }
            text = "";
            return fault == -1 ? walls - 1 : -10 - fault;
        }

        int told(int what) {
            if (what >= 10 && what <= 21) return tree.whose(what - 10);
            int bits = 0;
            for (int i = 0; i < tree.fruit.size(); i++) {
                bits |= tree.fruit.get(i).cut ? 1 << i : 0;
            }
            switch (what) {
                case 0: return tree.day;
                case 1: return tree.enough();
                case 2: return bits;
                case 3: return tree.ripeTogether();
                case 4: return tree.howManyRipe();
                default: return -10001;
            }
        }

        int pass(int n) {
            if (n < 0 || n > 60) return -2;
            if (tree.day + n > 9999) return -3;
            for (int i = 0; i < n; i++) {
                tree.day(9999);
            }
            return tree.day;
        }

        int on(int n, int what) {
            boolean isHad = what >= 10 && what <= 15 && !no(what - 10);
            boolean isRipe = what >= 20 && what <= 25 && !no(what - 20);
            if (what != 0 && !isHad && !isRipe) return -1;
            if (n < 0 || n > 30) return -2;
            Tree t = later(n);
            return isHad ? t.fruit.get(what - 10).had : isRipe ? t.fruit.get(what - 20).ripe : t.howManyRipe();
        }

        int clear(int p, int hours) {
            if (no(p)) return -1;
            if (noHours(hours)) return -2;
            int best = -5;
            for (int bits = (1 << tree.fruit.size()) - 1; bits >= 0; bits--) {
                boolean isSmaller = best == -5 || Integer.bitCount(bits) <= Integer.bitCount(best);
                if ((bits >> p & 1) == 0 && !tree.fruit.get(p).cut && isSmaller && (cutting(bits).hours(p) & hours) == hours) {
                    best = bits;
                }
            }
            return best;
        }

        int help(int p, int what) {
            if (no(p) || no01(what)) return -1;
            int who = -5;
            int most = 0;
            for (int i = 0; i < tree.fruit.size(); i++) {
                int more = Integer.bitCount(cutting(1 << i).hours(p)) - Integer.bitCount(tree.hours(p));
                if (i != p && !tree.fruit.get(i).cut && more > most) {
                    who = i;
                    most = more;
                }
            }
            return who == -5 || what == 0 ? who : most;
        }

        int want(int hours) {
            if (hours == -1) {
                tree.wants.clear();
                return 0;
            }
            if (noHours(hours)) return -2;
            if (tree.wants.size() == 6) return -4;
            tree.wants.add(hours);
            return tree.wants.size();
        }

        int sent(int k) {
            if (k < -1 || k >= tree.wants.size()) return -1;
            int[] best = tryAll(new int[tree.wants.size()], 0, null);
            return k == -1 ? given(best) : best[k] == 9 ? -5 : best[k];
        }

        int given(int[] way) {
            return (int) Arrays.stream(way).filter(p -> p != 9).count();
        }

        /** All ways in the order of their rows; the first with the most stays. */
        int[] tryAll(int[] way, int at, int[] best) {
            if (at == way.length) {
                return best == null || given(way) > given(best) ? way.clone() : best;
            }
            for (int p = 0; p <= tree.fruit.size(); p++) {
                boolean isNone = p == tree.fruit.size();
                boolean fits = isNone || !tree.fruit.get(p).cut && (tree.wants.get(at) & ~tree.fruit.get(p).had) == 0;
                for (int i = 0; i < at && !isNone; i++) {
                    fits &= way[i] != p;
                }
                if (fits) {
                    way[at] = isNone ? 9 : p;
                    best = tryAll(way, at + 1, best);
                }
            }
            return best;
        }

        int tell(List<int[]> rows, int p, int hours, int most) {
            if (p == -1) {
                rows.clear();
                return 0;
            }
            if (no(p)) return -1;
            if (noHours(hours)) return -2;
            if (rows.size() == most) return -4;
            rows.add(new int[] {p, hours});
            return rows.size();
        }

        int see(int p, int hours) {
            return tell(tree.seen, p, hours, 5);
        }

        int can(int p, int what) {
            if (no(p) || no01(what)) return -1;
            List<Integer> all = new ArrayList<>();
            for (int v = 0; v < 10; v++) {
                Tree t = tree.copy();
                t.fruit.get(p).v = v;
                if (t.seenIsSo()) all.add(v);
            }
            return what == 0 ? all.size() : all.isEmpty() ? -5 : all.get(0);
        }

        int which(int what) {
            if (no01(what)) return -1;
            List<Integer> all = new ArrayList<>();
            for (int d = 0; d < 10; d++) {
                Tree t = tree.copy();
                t.day += d;
                if (t.seenIsSo()) all.add(d);
            }
            return what == 0 ? all.size() : all.isEmpty() ? -5 : all.get(0);
        }

        long lowest(int above, int below, int part) {
            for (int by = below; by > 1; by--) {
                if (above % by == 0 && below % by == 0) {
                    return (part == 0 ? above : below) / by;
                }
            }
            return part == 0 ? above : below;
        }

        long odds(int p, int hour, int part) {
            if (no(p) || hour < 0 || hour > 11 || no01(part)) return Long.MIN_VALUE;
            int many = 0;
            for (int i = 0; i < tree.fruit.size(); i++) {
                many += cutting(1 << i).whose(hour) == p ? 1 : 0;
            }
            return lowest(many, tree.fruit.size(), part);
        }

        long mean(int part) {
            return tree.fruit.isEmpty() || no01(part) ? Long.MIN_VALUE : lowest(tree.ripeTogether(), tree.fruit.size(), part);
        }

        int plan(int what, int p) {
            if (what == -1) {
                tree.plan.clear();
                return 0;
            }
            if (what < 0 || what > 3 || what > 0 && no(p)) return -1;
            if (tree.plan.size() == 10) return -4;
            tree.plan.add(new int[] {what, p});
            return tree.plan.size();
        }

        int ends(int what) {
            if (no01(what)) return -1;
            Tree t = tree.copy();
            for (int[] row : tree.plan) {
                if (row[0] == 0) {
                    t.day(Integer.MAX_VALUE);
                } else if (row[0] == 3) {
                    t.fruit.get(row[1]).ripe = 0;
                } else {
                    t.fruit.get(row[1]).cut = row[0] == 1;
                }
            }
            return what == 0 ? t.ripeTogether() : t.howManyRipe();
        }

        int book(int p, int hours) {
            return tell(tree.book, p, hours, 8);
        }

        int looked() {
            for (int i = 0; i < tree.book.size(); i++) {
                if (tree.fruit.get(tree.book.get(i)[0]).had != tree.book.get(i)[1]) return i;
            }
            return -5;
        }

        int judge(int tape, int i) {
            if (tape < 0 || tape > 5) return -1;
            if (tapes[tape] != null && !(tapes[tape] instanceof int[])) return -12;
            if (tree.fruit.isEmpty()) return -5;
            int[] ints = (int[]) tapes[tape];
            for (int p = 0; p < tree.fruit.size(); p++) {
                if (ints == null || i < 0 || (long) i + p >= ints.length) return 100 + p;
                if (ints[i + p] != tree.fruit.get(p).had) return p;
            }
            return -5;
        }

        int image() {
            image = tree.copy();
            return tree.fruit.size();
        }

        int undo() {
            if (image == null) return -3;
            tree = image.copy();
            return tree.fruit.size();
        }

        int act(int p, int act, int x) {
            trace.clear();
            return no(p) || act < 0 || act > 2 ? 0 : run(tree.fruit.get(p).kind, act, p, x);
        }

        /** The body that the kind, or the next one above that has one, has for the act. */
        int run(int from, int act, int p, int x) {
            int at = from;
            while (BODIES[at][act] == 0) {
                at = PARENT[at];
            }
            int own = tree.fruit.get(p).kind;
            int up = PARENT[at];
            int v = tree.fruit.get(p).v;
            trace.add(BODIES[at][act]);
            switch (BODIES[at][act]) {
                case 10: return x + p;
                case 11: return run(own, 0, p, x) - v;
                case 12: return run(own, 1, p, x) * 2;
                case 20: return run(up, 1, p, x) ^ 6;
                case 30: return run(up, 0, p, x * 3);
                case 40: {
                    int left = run(up, 2, p, x);
                    return left + run(own, 1, p, 1);
                }
                case 50: return -run(up, 0, p, x);
                case 51: return run(up, 1, p, x + 1);
                case 60: return run(up, 2, p, x - p);
                case 70: {
                    int left = run(up, 1, p, x);
                    return left + run(up, 0, p, 2);
                }
                default: return run(up, 0, p, x) ^ v;
            }
        }

        int trace(int i) {
            return i < 0 || i >= trace.size() || i >= 20 ? -1 : trace.get(i);
        }

        int taken(int p, int k) {
            if (k < 0 || k > 6) return -2;
            if (no(p)) return -11;
            int kind = tree.fruit.get(p).kind;
            boolean isOne = k == 0 || k == kind || k == PARENT[kind];
            return isOne ? kind : -12;
        }

        int count(int what) {
            if (what < 0 || what > 7) return -2;
            return List.of(tree.fruit.size(), walls, tree.wants.size(), tree.seen.size(), tree.plan.size(), tree.book.size(),
                text.length(), trace.size()).get(what);
        }

        int tape(int tape, int sort, int n) {
            if (tape < 0 || tape > 5) return -1;
            if (sort < -1 || sort > 4 || sort != -1 && n > 60) return -2;
            if (sort != -1 && n < 0) return -14;
            switch (sort) {
                case 0: tapes[tape] = new byte[n]; break;
                case 1: tapes[tape] = new short[n]; break;
                case 2: tapes[tape] = new int[n]; break;
                case 3: tapes[tape] = new long[n]; break;
                case 4: tapes[tape] = new boolean[n]; break;
                default: tapes[tape] = null; break;
            }
            return 1;
        }

        int length(int tape) {
            return java.lang.reflect.Array.getLength(tapes[tape]);
        }

        int item(int tape, int i, long v) {
            if (tape < 0 || tape > 5) return -1;
            if (tapes[tape] == null) return -11;
            if (i < 0 || i >= length(tape)) return -13;
            if (tapes[tape] instanceof byte[]) {
                ((byte[]) tapes[tape])[i] = (byte) v;
            } else if (tapes[tape] instanceof short[]) {
                ((short[]) tapes[tape])[i] = (short) v;
            } else if (tapes[tape] instanceof int[]) {
                ((int[]) tapes[tape])[i] = (int) v;
            } else if (tapes[tape] instanceof long[]) {
                ((long[]) tapes[tape])[i] = v;
            } else {
                ((boolean[]) tapes[tape])[i] = v != 0;
            }
            return 1;
        }

        long read(int tape, int i) {
            if (tape < 0 || tape > 5 || tapes[tape] == null || i < 0 || i >= length(tape)) return Long.MIN_VALUE;
            if (tapes[tape] instanceof boolean[]) return ((boolean[]) tapes[tape])[i] ? 1 : 0;
            return java.lang.reflect.Array.getLong(tapes[tape], i);
        }

        int shift(int tape, int i, int other, int j, int n) {
            if (tape < 0 || tape > 5 || other < 0 || other > 5) return -1;
            if (tapes[tape] == null || tapes[other] == null) return -11;
            if (tapes[tape].getClass() != tapes[other].getClass()) return -12;
            if (n < 0 || i < 0 || j < 0 || (long) i + n > length(tape) || (long) j + n > length(other)) return -13;
            System.arraycopy(tapes[tape], i, tapes[other], j, n);
            return n;
        }
    }
}
