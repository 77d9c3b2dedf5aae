import java.util.Arrays;

/** Pears on the arms of a tree that share the twelve hours of a day; README.md tells how it is used. */
public final class PearSummer {
    public static final int NONE = -1, BAD = -2, STATE = -3, FULL = -4;
    public static final long NO = Long.MIN_VALUE;

    private static final int NOBODY = -5;
    private static final int NOTHING = -11, CAST = -12, PLACE = -13, SIZE = -14;
    private static final int FAULT_BASE = -10;
    /** Stands for NONE where an answer may be below 0. */
    private static final int FAR_NONE = -10001;

    private static final int MOST_FRUIT = 6, HOURS = 12, ALL_HOURS = 4095, KINDS = 7;
    private static final int MOST_TEXT = 100, MOST_WALLS = 6;
    private static final int MOST_WANTS = 6, MOST_SEEN = 5, MOST_PLAN = 10, MOST_BOOK = 8;
    private static final int MOST_RIPE = 9999, LAST_DAY = 9999, FREE = Integer.MAX_VALUE;
    private static final int MOST_PASSED = 60, MOST_ASKED = 30, DAYS_LOOKED_AT = 10, NUMBERS_OF_V = 10;
    private static final int TAPES = 6, MOST_ITEMS = 60, EMPTY = -1, INTS = 2, LAST_SORT = 4;
    private static final int USES = 64;
    private static final int TOLD_KIND = 6;
    /** The kind above each kind; none above the first. */
    private static final int[] ABOVE = {-1, 0, 0, 0, 1, 2, 3};

    private final Tree now;
    private final Tree saved;
    /** What is asked is tried here, so that it changes nothing. */
    private final Tree tried;
    private boolean hasImage;
    private final byte[] text;
    private int signs;
    private int walls;
    private final Deed deed;
    /** By want and the fruit that are given away ahead of it: how many more can be given one. */
    private final int[][] gives;
    private final long[][] cells;
    private final int[] sorts;
    private final int[] lengths;

    public PearSummer() {
        Pear[] kinds = {new Pear(), new Early(), new Late(), new Bell(), new Twin(), new Kept(), new Told()};
        now = new Tree(kinds);
        saved = new Tree(kinds);
        tried = new Tree(kinds);
        text = new byte[MOST_TEXT];
        deed = new Deed();
        gives = new int[MOST_WANTS + 1][USES];
        cells = new long[TAPES][MOST_ITEMS];
        sorts = new int[TAPES];
        Arrays.fill(sorts, EMPTY);
        lengths = new int[TAPES];
    }

    // ---- fruit, walls

    public int fruit(int kind, int v) {
        if (kind < 0 || kind >= KINDS) {
            return NONE;
        }
        if (v < 0 || v >= NUMBERS_OF_V) {
            return BAD;
        }
        return now.fruits < MOST_FRUIT ? now.grow(kind, v) : FULL;
    }

    public int of(int fruit, int what) {
        if (!now.has(fruit)) {
            return FAR_NONE;
        }
        if (what >= 10 && what < 10 + HOURS) {
            now.light();
            return now.pullAt(fruit, what - 10);
        }
        switch (what) {
            case 0: return now.kind[fruit];
            case 1: return now.v[fruit];
            case 2: return now.isCut(fruit) ? 1 : 0;
            case 3: return now.had[fruit];
            case 4: return now.ripe[fruit];
            case 5: return ownHours(fruit);
            case 6: return soleHours(fruit);
            case 7: return whenRipe(fruit);
            default: return FAR_NONE;
        }
    }

    public int cut(int fruit, boolean is) {
        if (!now.has(fruit)) {
            return NONE;
        }
        int was = now.isCut(fruit) ? 1 : 0;
        now.setCut(fruit, is);
        return was;
    }

    public int set(int fruit, int what, int n) {
        if (!now.has(fruit) || what < 0 || what > 1) {
            return NONE;
        }
        if (n < 0 || n > (what == 0 ? ALL_HOURS : MOST_RIPE)) {
            return BAD;
        }
        int[] numbers = what == 0 ? now.had : now.ripe;
        int was = numbers[fruit];
        numbers[fruit] = n;
        return was;
    }

    public int row(int fruit, int part, int n) {
        if (!now.has(fruit) || part < 0 || part >= Tree.PARTS) {
            return NONE;
        }
        if (n < 0 || n > 9) {
            return BAD;
        }
        if (now.kind[fruit] != TOLD_KIND) {
            return STATE;
        }
        int was = now.row[fruit][part];
        now.row[fruit][part] = n;
        return was;
    }

    public int feed(int sign) {
        if (sign < 0 || sign > 127) {
            return BAD;
        }
        if (signs >= MOST_TEXT) {
            return FULL;
        }
        text[signs] = (byte) sign;
        signs++;
        return signs;
    }

    public int wall() {
        if (walls >= MOST_WALLS) {
            return FULL;
        }
        Wall wall = new Wall(Arrays.copyOf(text, signs));
        signs = 0;
        if (!wall.readAll()) {
            return FAULT_BASE - wall.at;
        }
        now.wall = wall;
        walls++;
        return walls - 1;
    }

    public int told(int what) {
        if (what >= 10 && what < 10 + HOURS) {
            now.light();
            int who = now.whoseHour(what - 10);
            return who < 0 ? NOBODY : who;
        }
        switch (what) {
            case 0: return now.day;
            case 1: return now.ripeEnough();
            case 2: return now.cut;
            case 3: return now.ripeTogether();
            case 4: return now.howManyRipe();
            default: return FAR_NONE;
        }
    }

    private int ownHours(int fruit) {
        now.light();
        now.share();
        return now.hours[fruit];
    }

    private int soleHours(int fruit) {
        if (now.isCut(fruit)) {
            return 0;
        }
        tried.takeFruit(now);
        tried.cut = tried.allFruit() & ~(1 << fruit);
        tried.light();
        tried.share();
        return tried.hours[fruit];
    }

    private int whenRipe(int fruit) {
        tried.takeFruit(now);
        int enough = now.ripeEnough();
        for (int days = 0; days <= MOST_ASKED; days++) {
            if (days > 0) {
                tried.daysGo(1, FREE);
            }
            if (tried.ripe[fruit] >= enough) {
                return days;
            }
        }
        return NOBODY;
    }

    // ---- days

    public int pass(int n) {
        if (n < 0 || n > MOST_PASSED) {
            return BAD;
        }
        if (now.day + n > LAST_DAY) {
            return STATE;
        }
        now.daysGo(n, MOST_RIPE);
        return now.day;
    }

    public int on(int n, int what) {
        boolean asksHad = what >= 10 && what < 20;
        int fruit = asksHad ? what - 10 : what - 20;
        if (what != 0 && (what < 10 || !now.has(fruit))) {
            return NONE;
        }
        if (n < 0 || n > MOST_ASKED) {
            return BAD;
        }
        tried.takeFruit(now);
        tried.daysGo(n, FREE);
        if (what == 0) {
            return tried.howManyRipe();
        }
        return asksHad ? tried.had[fruit] : tried.ripe[fruit];
    }

    // ---- cutting, sending

    public int clear(int fruit, int hours) {
        if (!now.has(fruit)) {
            return NONE;
        }
        if (!areHours(hours)) {
            return BAD;
        }
        return now.isCut(fruit) ? NOBODY : leastCuts(fruit, hours);
    }

    private static boolean areHours(int hours) {
        return hours >= 0 && hours <= ALL_HOURS;
    }

    private int leastCuts(int fruit, int hours) {
        tried.takeFruit(now);
        tried.light();
        // What is cut already, or the fruit itself, is in no set with the fewest.
        int others = now.allFruit() & ~now.cut & ~(1 << fruit);
        int best = NOBODY;
        int fewest = MOST_FRUIT;
        for (int cuts = 0; cuts <= others; cuts++) {
            int many = Integer.bitCount(cuts);
            if ((cuts & ~others) != 0 || many >= fewest) {
                continue;
            }
            tried.cut = now.cut | cuts;
            tried.share();
            if ((hours & ~tried.hours[fruit]) == 0) {
                best = cuts;
                fewest = many;
            }
        }
        return best;
    }

    public int help(int fruit, int what) {
        if (!now.has(fruit) || what < 0 || what > 1) {
            return NONE;
        }
        if (now.isCut(fruit)) {
            return NOBODY;
        }
        tried.takeFruit(now);
        tried.light();
        tried.share();
        int before = Integer.bitCount(tried.hours[fruit]);
        int who = NOBODY;
        int most = 0;
        for (int other = 0; other < now.fruits; other++) {
            if (other == fruit || now.isCut(other)) {
                continue;
            }
            tried.cut = now.cut | 1 << other;
            tried.share();
            int more = Integer.bitCount(tried.hours[fruit]) - before;
            if (more > most) {
                most = more;
                who = other;
            }
        }
        return what == 0 || who == NOBODY ? who : most;
    }

    public int want(int hours) {
        if (hours == -1) {
            return now.wants.empty();
        }
        if (!areHours(hours)) {
            return BAD;
        }
        return now.wants.add(0, hours);
    }

    public int sent(int k) {
        if (k < -1 || k >= now.wants.size) {
            return NONE;
        }
        countGives();
        return k == -1 ? gives[0][0] : sentFor(k);
    }

    private void countGives() {
        Arrays.fill(gives[now.wants.size], 0);
        for (int k = now.wants.size - 1; k >= 0; k--) {
            for (int used = 0; used < USES; used++) {
                int most = gives[k + 1][used];
                for (int fruit = 0; fruit < now.fruits; fruit++) {
                    if (canBeSent(k, fruit, used)) {
                        most = Math.max(most, 1 + gives[k + 1][used | 1 << fruit]);
                    }
                }
                gives[k][used] = most;
            }
        }
    }

    private boolean canBeSent(int k, int fruit, int used) {
        return ((used | now.cut) >> fruit & 1) == 0 && (now.wants.second[k] & ~now.had[fruit]) == 0;
    }

    private int sentFor(int k) {
        int used = 0;
        int who = NOBODY;
        for (int want = 0; want <= k; want++) {
            who = firstGiven(want, used);
            if (who != NOBODY) {
                used |= 1 << who;
            }
        }
        return who;
    }

    /** The first fruit by which no want behind loses more than this one gains. */
    private int firstGiven(int want, int used) {
        for (int fruit = 0; fruit < now.fruits; fruit++) {
            if (canBeSent(want, fruit, used)
                    && 1 + gives[want + 1][used | 1 << fruit] == gives[want][used]) {
                return fruit;
            }
        }
        return NOBODY;
    }

    // ---- seen, odds

    public int see(int fruit, int hours) {
        return tellRow(now.seen, fruit, hours);
    }

    private int tellRow(Rows rows, int fruit, int hours) {
        if (fruit == -1) {
            return rows.empty();
        }
        if (!now.has(fruit)) {
            return NONE;
        }
        if (!areHours(hours)) {
            return BAD;
        }
        return rows.add(fruit, hours);
    }

    public int can(int fruit, int what) {
        if (!now.has(fruit) || what < 0 || what > 1) {
            return NONE;
        }
        tried.takeFruit(now);
        int many = 0;
        int least = NOBODY;
        for (int v = NUMBERS_OF_V - 1; v >= 0; v--) {
            tried.v[fruit] = v;
            if (isSeenSo()) {
                many++;
                least = v;
            }
        }
        return what == 0 ? many : least;
    }

    public int which(int what) {
        if (what < 0 || what > 1) {
            return NONE;
        }
        tried.takeFruit(now);
        int many = 0;
        int first = NOBODY;
        for (int days = DAYS_LOOKED_AT - 1; days >= 0; days--) {
            tried.day = now.day + days;
            if (isSeenSo()) {
                many++;
                first = days;
            }
        }
        return what == 0 ? many : first;
    }

    private boolean isSeenSo() {
        tried.light();
        tried.share();
        return now.seen.firstOther(tried.hours) == NOBODY;
    }

    public long odds(int fruit, int hour, int part) {
        if (!now.has(fruit) || hour < 0 || hour >= HOURS) {
            return NO;
        }
        tried.takeFruit(now);
        tried.light();
        int many = 0;
        for (int cuts = 0; cuts < now.fruits; cuts++) {
            tried.cut = now.cut | 1 << cuts;
            if (tried.whoseHour(hour) == fruit) {
                many++;
            }
        }
        return fractionPart(many, now.fruits, part);
    }

    public long mean(int part) {
        return fractionPart(now.ripeTogether(), now.fruits, part);
    }

    private static long fractionPart(int above, int below, int part) {
        if (below <= 0 || part < 0 || part > 1) {
            return NO;
        }
        int a = below;
        int b = above;
        // Each step at least halves a within two; an int has 31 bits.
        for (int step = 0; step < 64 && b != 0; step++) {
            int rest = a % b;
            a = b;
            b = rest;
        }
        return a == 0 ? NO : (part == 0 ? above : below) / a;
    }

    // ---- plans, books

    public int plan(int what, int fruit) {
        if (what == -1) {
            return now.plan.empty();
        }
        if (what < 0 || what > 3 || what != 0 && !now.has(fruit)) {
            return NONE;
        }
        return now.plan.add(what == 0 ? 0 : fruit, what);
    }

    public int ends(int what) {
        if (what < 0 || what > 1) {
            return NONE;
        }
        tried.takeFruit(now);
        for (int i = 0; i < now.plan.size; i++) {
            tried.follow(now.plan.second[i], now.plan.first[i]);
        }
        return what == 0 ? tried.ripeTogether() : tried.howManyRipe();
    }

    public int book(int fruit, int hours) {
        return tellRow(now.book, fruit, hours);
    }

    public int looked() {
        return now.book.firstOther(now.had);
    }

    // ---- judging, the image, acts, tapes

    public int judge(int tape, int i) {
        if (!isTape(tape)) {
            return NONE;
        }
        if (sorts[tape] != EMPTY && sorts[tape] != INTS) {
            return CAST;
        }
        if (now.fruits == 0) {
            return NOBODY;
        }
        if (i < 0 || sorts[tape] == EMPTY) {
            return 100;
        }
        for (int fruit = 0; fruit < now.fruits; fruit++) {
            if (i >= lengths[tape] - fruit) {
                return 100 + fruit;
            }
            if (cells[tape][i + fruit] != now.had[fruit]) {
                return fruit;
            }
        }
        return NOBODY;
    }

    public int image() {
        saved.takeFruit(now);
        saved.takeRows(now);
        hasImage = true;
        return now.fruits;
    }

    public int undo() {
        if (!hasImage) {
            return STATE;
        }
        now.takeFruit(saved);
        now.takeRows(saved);
        return now.fruits;
    }

    public int act(int fruit, int act, int x) {
        deed.begin();
        if (!now.has(fruit)) {
            return 0;
        }
        deed.number = fruit;
        deed.v = now.v[fruit];
        Pear kind = now.kinds[now.kind[fruit]];
        switch (act) {
            case 0: return kind.warms(deed, x);
            case 1: return kind.swells(deed, x);
            case 2: return kind.tells(deed, x);
            default: return 0;
        }
    }

    public int trace(int i) {
        return i >= 0 && i < Math.min(deed.ran, Deed.KEPT_BODIES) ? deed.bodies[i] : NONE;
    }

    public int taken(int fruit, int k) {
        if (k < 0 || k >= KINDS) {
            return BAD;
        }
        if (!now.has(fruit)) {
            return NOTHING;
        }
        int kind = now.kind[fruit];
        int above = kind;
        for (int step = 0; step < KINDS && above >= 0; step++) {
            if (above == k) {
                return kind;
            }
            above = ABOVE[above];
        }
        return CAST;
    }

    public int count(int what) {
        switch (what) {
            case 0: return now.fruits;
            case 1: return walls;
            case 2: return now.wants.size;
            case 3: return now.seen.size;
            case 4: return now.plan.size;
            case 5: return now.book.size;
            case 6: return signs;
            case 7: return deed.ran;
            default: return BAD;
        }
    }

    public int tape(int tape, int sort, int n) {
        if (!isTape(tape)) {
            return NONE;
        }
        if (sort == EMPTY) {
            sorts[tape] = EMPTY;
            lengths[tape] = 0;
            return 1;
        }
        if (sort < 0 || sort > LAST_SORT || n > MOST_ITEMS) {
            return BAD;
        }
        if (n < 0) {
            return SIZE;
        }
        sorts[tape] = sort;
        lengths[tape] = n;
        Arrays.fill(cells[tape], 0);
        return 1;
    }

    public int item(int tape, int i, long v) {
        if (!isTape(tape)) {
            return NONE;
        }
        if (sorts[tape] == EMPTY) {
            return NOTHING;
        }
        if (i < 0 || i >= lengths[tape]) {
            return PLACE;
        }
        cells[tape][i] = asItem(sorts[tape], v);
        return 1;
    }

    public long read(int tape, int i) {
        if (!isTape(tape) || i < 0 || i >= lengths[tape]) {
            return NO;
        }
        return cells[tape][i];
    }

    public int shift(int tape, int i, int other, int j, int n) {
        if (!isTape(tape) || !isTape(other)) {
            return NONE;
        }
        if (sorts[tape] == EMPTY || sorts[other] == EMPTY) {
            return NOTHING;
        }
        if (sorts[tape] != sorts[other]) {
            return CAST;
        }
        if (n < 0 || i < 0 || j < 0 || i > lengths[tape] - n || j > lengths[other] - n) {
            return PLACE;
        }
        System.arraycopy(cells[tape], i, cells[other], j, n);
        return n;
    }

    private static boolean isTape(int tape) {
        return tape >= 0 && tape < TAPES;
    }

    private static long asItem(int sort, long v) {
        switch (sort) {
            case 0: return (byte) v;
            case 1: return (short) v;
            case INTS: return (int) v;
            case LAST_SORT: return v != 0 ? 1 : 0;
            default: return v;
        }
    }

    /** Rows told by hand: of each a fruit (0, where it does not matter), and hours or what goes. */
    private static final class Rows {
        final int[] first;
        final int[] second;
        int size;

        Rows(int most) {
            first = new int[most];
            second = new int[most];
        }

        int empty() {
            size = 0;
            return 0;
        }

        int add(int a, int b) {
            if (size >= first.length) {
                return FULL;
            }
            first[size] = a;
            second[size] = b;
            size++;
            return size;
        }

        /** The first row whose fruit has other hours than it tells. */
        int firstOther(int[] hours) {
            for (int i = 0; i < size; i++) {
                if (hours[first[i]] != second[i]) {
                    return i;
                }
            }
            return NOBODY;
        }

        void takeAll(Rows other) {
            size = other.size;
            System.arraycopy(other.first, 0, first, 0, size);
            System.arraycopy(other.second, 0, second, 0, size);
        }
    }

    /** All that an image keeps, and who has which hour by it. */
    private static final class Tree {
        static final int PARTS = 4;
        static final int PLAIN_SUM = 5, PLAIN_ENOUGH = 30;

        final Pear[] kinds;
        int fruits;
        int day;
        int cut;
        Wall wall;
        final int[] kind = new int[MOST_FRUIT];
        final int[] v = new int[MOST_FRUIT];
        final int[] had = new int[MOST_FRUIT];
        final int[] ripe = new int[MOST_FRUIT];
        final int[][] row = new int[MOST_FRUIT][PARTS];
        final Rows wants = new Rows(MOST_WANTS);
        final Rows seen = new Rows(MOST_SEEN);
        final Rows plan = new Rows(MOST_PLAN);
        final Rows book = new Rows(MOST_BOOK);
        /** As of the latest light(): the sum of each fruit at each hour, which does not hang on what is cut. */
        final int[][] sums = new int[MOST_FRUIT][HOURS];
        /** As of the latest share(): the hours of each fruit. */
        final int[] hours = new int[MOST_FRUIT];

        Tree(Pear[] kinds) {
            this.kinds = kinds;
        }

        boolean has(int fruit) {
            return fruit >= 0 && fruit < fruits;
        }

        boolean isCut(int fruit) {
            return (cut >> fruit & 1) != 0;
        }

        void setCut(int fruit, boolean is) {
            cut = is ? cut | 1 << fruit : cut & ~(1 << fruit);
        }

        int allFruit() {
            return (1 << fruits) - 1;
        }

        int grow(int newKind, int newV) {
            kind[fruits] = newKind;
            v[fruits] = newV;
            // Behind an undo the place may still hold what a lost fruit had.
            had[fruits] = 0;
            ripe[fruits] = 0;
            Arrays.fill(row[fruits], 0);
            fruits++;
            return fruits - 1;
        }

        void takeFruit(Tree other) {
            fruits = other.fruits;
            day = other.day;
            cut = other.cut;
            wall = other.wall;
            System.arraycopy(other.kind, 0, kind, 0, fruits);
            System.arraycopy(other.v, 0, v, 0, fruits);
            System.arraycopy(other.had, 0, had, 0, fruits);
            System.arraycopy(other.ripe, 0, ripe, 0, fruits);
            for (int fruit = 0; fruit < fruits; fruit++) {
                System.arraycopy(other.row[fruit], 0, row[fruit], 0, PARTS);
            }
        }

        void takeRows(Tree other) {
            wants.takeAll(other.wants);
            seen.takeAll(other.seen);
            plan.takeAll(other.plan);
            book.takeAll(other.book);
        }

        int ripeEnough() {
            return wall == null ? PLAIN_ENOUGH : wall.enough;
        }

        int ripeTogether() {
            int sum = 0;
            for (int fruit = 0; fruit < fruits; fruit++) {
                sum += ripe[fruit];
            }
            return sum;
        }

        int howManyRipe() {
            int enough = ripeEnough();
            int many = 0;
            for (int fruit = 0; fruit < fruits; fruit++) {
                if (!isCut(fruit) && ripe[fruit] >= enough) {
                    many++;
                }
            }
            return many;
        }

        /** Comes ahead of pullAt, whoseHour and share, if anything but what is cut has changed. */
        void light() {
            for (int fruit = 0; fruit < fruits; fruit++) {
                Arrays.fill(sums[fruit], PLAIN_SUM);
                if (wall != null) {
                    wall.shine(this, fruit);
                }
            }
        }

        int pullAt(int fruit, int hour) {
            return kinds[kind[fruit]].pulls(this, fruit, hour);
        }

        int whoseHour(int hour) {
            int who = -1;
            int most = 0;
            for (int fruit = 0; fruit < fruits; fruit++) {
                if (isCut(fruit)) {
                    continue;
                }
                int pull = kinds[kind[fruit]].pulls(this, fruit, hour);
                if (pull > most) {
                    most = pull;
                    who = fruit;
                }
            }
            return who;
        }

        void share() {
            Arrays.fill(hours, 0);
            for (int hour = 0; hour < HOURS; hour++) {
                int who = whoseHour(hour);
                if (who >= 0) {
                    hours[who] |= 1 << hour;
                }
            }
        }

        void daysGo(int n, int mostRipe) {
            for (int i = 0; i < n; i++) {
                light();
                share();
                for (int fruit = 0; fruit < fruits; fruit++) {
                    had[fruit] |= hours[fruit];
                    ripe[fruit] = Math.min(mostRipe, ripe[fruit] + Integer.bitCount(hours[fruit]));
                }
                day++;
            }
        }

        void follow(int what, int fruit) {
            switch (what) {
                case 0: daysGo(1, FREE); break;
                case 1: setCut(fruit, true); break;
                case 2: setCut(fruit, false); break;
                default: ripe[fruit] = 0; break;
            }
        }

        /** What a letter of a wall's test stands for, but h, which is no number of the fruit's. */
        int numberBehind(char letter, int fruit) {
            switch (letter) {
                case 'p': return fruit;
                case 'k': return kind[fruit];
                case 'v': return v[fruit];
                case 'r': return ripe[fruit] / 10;
                default: return day % 10;
            }
        }
    }

    /**
     * A wall as steps: each test leaves the hours at which it holds, as bits, so that one walk
     * over the steps answers for the whole day of a fruit.
     */
    private static final class Wall {
        static final int MOST_CLAUSES = 10, MOST_NEST = 4;
        /** Two halves wait at each of the five levels, and one is at work. */
        static final int MOST_WAITING = 11;
        static final char FIXED = 'h', SUN = '+', SHADE = '-', NO_LETTER = ' ';
        static final int END = -1;

        final byte[] text;
        /** The place that is read; behind a reading that failed, the fault. */
        int at;
        int number;
        int enough = Tree.PLAIN_ENOUGH;
        final char[] steps;
        final char[] letters;
        final int[] numbers;
        int size;
        final int[] waiting = new int[MOST_WAITING];

        /** No step stands for less than one sign, so there are no more steps than signs. */
        Wall(byte[] text) {
            this.text = text;
            steps = new char[text.length];
            letters = new char[text.length];
            numbers = new int[text.length];
        }

        /** Reads the text: whether it is a wall. Each reading stops at the first sign that none can have. */
        boolean readAll() {
            for (int clause = 0; clause < MOST_CLAUSES; clause++) {
                if (!readClause()) {
                    return false;
                }
                if (at >= text.length) {
                    return true;
                }
                if (clause + 1 == MOST_CLAUSES || !readSign(';')) {
                    return false;
                }
            }
            return false;
        }

        private int sign() {
            return at < text.length ? text[at] : END;
        }

        private boolean readSign(char due) {
            if (sign() != due) {
                return false;
            }
            at++;
            return true;
        }

        private boolean readWord(String word) {
            for (int i = 0; i < word.length(); i++) {
                if (!readSign(word.charAt(i))) {
                    return false;
                }
            }
            return readSign(' ');
        }

        private boolean readNumber() {
            number = 0;
            int digits = 0;
            while (digits < 2 && at < text.length && text[at] >= '0' && text[at] <= '9') {
                number = number * 10 + text[at] - '0';
                at++;
                digits++;
            }
            return digits > 0;
        }

        private boolean readClause() {
            if (sign() == 'r') {
                if (!readWord("ripe") || !readNumber()) {
                    return false;
                }
                enough = number;
                return true;
            }
            boolean isShade = at + 1 < text.length && text[at + 1] == 'h';
            if (!readWord(isShade ? "shade" : "sun") || !readNumber()) {
                return false;
            }
            int strength = number;
            if (!readSign(' ') || !readEither(0)) {
                return false;
            }
            addStep(isShade ? SHADE : SUN, NO_LETTER, strength);
            return true;
        }

        private boolean readEither(int nest) {
            boolean fine = readBoth(nest);
            for (int i = 0; i < text.length && fine && sign() == '|'; i++) {
                at++;
                fine = readBoth(nest);
                addStep('|', NO_LETTER, 0);
            }
            return fine;
        }

        private boolean readBoth(int nest) {
            boolean fine = readOne(nest);
            for (int i = 0; i < text.length && fine && sign() == '&'; i++) {
                at++;
                fine = readOne(nest);
                addStep('&', NO_LETTER, 0);
            }
            return fine;
        }

        private boolean readOne(int nest) {
            int sign = sign();
            if (sign != '!' && sign != '(') {
                return readTest();
            }
            if (nest >= MOST_NEST) {
                return false;
            }
            at++;
            if (sign == '(') {
                return readEither(nest + 1) && readSign(')');
            }
            boolean fine = readOne(nest + 1);
            addStep('!', NO_LETTER, 0);
            return fine;
        }

        private boolean readTest() {
            int letter = sign();
            if (letter < 0 || "pkvhrd".indexOf((char) letter) < 0) {
                return false;
            }
            at++;
            int relation = sign();
            if (relation != '<' && relation != '=' && relation != '>') {
                return false;
            }
            at++;
            if (!readNumber()) {
                return false;
            }
            if (letter == 'h') {
                addStep(FIXED, NO_LETTER, hoursThat((char) relation, number));
            } else {
                addStep((char) relation, (char) letter, number);
            }
            return true;
        }

        private static int hoursThat(char relation, int n) {
            // Numbers beyond the last hour are all one behind it here.
            int hour = 1 << (n < HOURS ? n : HOURS);
            switch (relation) {
                case '<': return hour - 1;
                case '=': return hour & ALL_HOURS;
                default: return ALL_HOURS & ~(hour | hour - 1);
            }
        }

        private static boolean holds(int value, char relation, int n) {
            switch (relation) {
                case '<': return value < n;
                case '=': return value == n;
                default: return value > n;
            }
        }

        private void addStep(char step, char letter, int n) {
            if (size < steps.length) {
                steps[size] = step;
                letters[size] = letter;
                numbers[size] = n;
                size++;
            }
        }

        /** Adds what the clauses give and take to the sums of a fruit. */
        void shine(Tree tree, int fruit) {
            int top = -1;
            for (int i = 0; i < size; i++) {
                char step = steps[i];
                if (step == '&' || step == '|') {
                    if (top >= 1) {
                        top--;
                        waiting[top] = step == '&' ? waiting[top] & waiting[top + 1] : waiting[top] | waiting[top + 1];
                    }
                } else if (step == '!') {
                    if (top >= 0) {
                        waiting[top] ^= ALL_HOURS;
                    }
                } else if (step == SUN || step == SHADE) {
                    if (top >= 0) {
                        addAt(tree.sums[fruit], waiting[top], step == SUN ? numbers[i] : -numbers[i]);
                        top--;
                    }
                } else if (top + 1 < MOST_WAITING) {
                    top++;
                    waiting[top] = testedHours(i, tree, fruit);
                }
            }
        }

        private int testedHours(int i, Tree tree, int fruit) {
            if (steps[i] == FIXED) {
                return numbers[i];
            }
            return holds(tree.numberBehind(letters[i], fruit), steps[i], numbers[i]) ? ALL_HOURS : 0;
        }

        private static void addAt(int[] sums, int hours, int n) {
            for (int hour = 0; hour < HOURS; hour++) {
                if ((hours >> hour & 1) != 0) {
                    sums[hour] += n;
                }
            }
        }
    }

    /** The act that is done: whose it is, and the bodies that ran in it. */
    private static final class Deed {
        static final int KEPT_BODIES = 20;

        int number;
        int v;
        final int[] bodies = new int[KEPT_BODIES];
        int ran;

        void begin() {
            ran = 0;
        }

        void runs(int body) {
            if (ran < KEPT_BODIES) {
                bodies[ran] = body;
            }
            ran++;
        }
    }

    /** The kinds have nothing of their own: how they pull and act, of the tree's fruit. */
    private static class Pear {
        int pulls(Tree tree, int fruit, int hour) {
            return tree.sums[fruit][hour];
        }

        int warms(Deed deed, int x) {
            deed.runs(10);
            return x + deed.number;
        }

        int swells(Deed deed, int x) {
            deed.runs(11);
            return warms(deed, x) - deed.v;
        }

        int tells(Deed deed, int x) {
            deed.runs(12);
            return swells(deed, x) * 2;
        }
    }

    private static class Early extends Pear {
        int pulls(Tree tree, int fruit, int hour) {
            return super.pulls(tree, fruit, hour) + Math.max(0, 6 - hour);
        }

        int swells(Deed deed, int x) {
            deed.runs(20);
            return super.swells(deed, x) ^ 6;
        }
    }

    private static class Late extends Pear {
        int pulls(Tree tree, int fruit, int hour) {
            return super.pulls(tree, fruit, hour) + Math.max(0, hour - 5);
        }

        int warms(Deed deed, int x) {
            deed.runs(30);
            return super.warms(deed, x * 3);
        }
    }

    private static class Bell extends Pear {
        int pulls(Tree tree, int fruit, int hour) {
            int sum = super.pulls(tree, fruit, hour);
            return (hour + tree.v[fruit]) % 3 == 0 ? sum : sum / 2;
        }

        int tells(Deed deed, int x) {
            deed.runs(40);
            return super.tells(deed, x) + swells(deed, 1);
        }
    }

    private static final class Twin extends Early {
        int pulls(Tree tree, int fruit, int hour) {
            boolean isShaded = fruit > 0 && !tree.isCut(fruit - 1);
            return super.pulls(tree, fruit, hour) - (isShaded ? 1 : 0);
        }

        int warms(Deed deed, int x) {
            deed.runs(50);
            return -super.warms(deed, x);
        }

        int swells(Deed deed, int x) {
            deed.runs(51);
            return super.swells(deed, x + 1);
        }
    }

    private static final class Kept extends Late {
        int pulls(Tree tree, int fruit, int hour) {
            return tree.day % 2 != 0 ? 0 : super.pulls(tree, fruit, hour);
        }

        int tells(Deed deed, int x) {
            deed.runs(60);
            return super.tells(deed, x - deed.number);
        }
    }

    private static final class Told extends Bell {
        int pulls(Tree tree, int fruit, int hour) {
            return super.pulls(tree, fruit, hour) + tree.row[fruit][hour % Tree.PARTS];
        }

        int swells(Deed deed, int x) {
            deed.runs(70);
            return super.swells(deed, x) + super.warms(deed, 2);
        }

        int warms(Deed deed, int x) {
            deed.runs(71);
            return super.warms(deed, x) ^ deed.v;
        }
    }
}
