/** The document's promises 1 to 35, one method each: ordinary inputs, edges, wrong inputs. */
public final class PearSummerPromises {
    private static final int PEAR = 0, EARLY = 1, LATE = 2, BELL = 3, TWIN = 4, KEPT = 5, TOLD = 6;
    private static final int MIN = Integer.MIN_VALUE, MAX = Integer.MAX_VALUE;
    private static final int FAR = -10001;
    private static final long NO = Long.MIN_VALUE;

    private static int promise;
    private static int looked;
    private static int wrong;

    public static void main(String[] args) {
        promise = 1; aNewObject();
        promise = 2; fruit();
        promise = 3; of(); pullsOfKinds(); soleAndWhen();
        promise = 4; cut();
        promise = 5; set();
        promise = 6; row();
        promise = 7; feed();
        promise = 8; wallFaults(); wallNesting(); wallClauses(); wallMeaning(); wallNumbers();
        promise = 9; told();
        promise = 10; pass(); passToTheLastDay();
        promise = 11; on(); onBeyondTheLastDay();
        promise = 12; clear();
        promise = 13; help();
        promise = 14; want();
        promise = 15; sent();
        promise = 16; see();
        promise = 17; can();
        promise = 18; which();
        promise = 19; odds();
        promise = 20; mean();
        promise = 21; plan();
        promise = 22; ends();
        promise = 23; book();
        promise = 24; looked();
        promise = 25; judge();
        promise = 26; image();
        promise = 27; undo();
        promise = 28; act();
        promise = 29; trace();
        promise = 30; taken();
        promise = 31; count();
        promise = 32; tape();
        promise = 33; item();
        promise = 34; read();
        promise = 35; shift();
        System.out.println(wrong == 0 ? looked + " answers are as promised" : wrong + " of " + looked + " answers are not as promised");
        if (wrong != 0) {
            System.exit(1);
        }
    }

    private static void due(String what, long got, long want) {
        looked++;
        if (got != want) {
            wrong++;
            System.out.println("promise " + promise + ": " + what + " is " + got + ", due is " + want);
        }
    }

    private static PearSummer of(int... kindsAndVs) {
        PearSummer x = new PearSummer();
        for (int i = 0; i + 1 < kindsAndVs.length; i += 2) {
            x.fruit(kindsAndVs[i], kindsAndVs[i + 1]);
        }
        return x;
    }

    private static int wall(PearSummer x, String text) {
        for (int i = 0; i < text.length(); i++) {
            x.feed(text.charAt(i));
        }
        return x.wall();
    }

    private static void aNewObject() {
        PearSummer x = new PearSummer();
        for (int what = 0; what < 8; what++) {
            due("count " + what, x.count(what), 0);
        }
        due("day", x.told(0), 0);
        due("ripe enough", x.told(1), 30);
        due("no fruit", x.of(0, 0), FAR);
        due("no image", x.undo(), PearSummer.STATE);
        due("no tape", x.read(0, 0), NO);
        due("NONE", PearSummer.NONE, -1);
        due("BAD", PearSummer.BAD, -2);
        due("STATE", PearSummer.STATE, -3);
        due("FULL", PearSummer.FULL, -4);
        due("NO", PearSummer.NO, NO);
    }

    private static void fruit() {
        PearSummer x = new PearSummer();
        due("kind below", x.fruit(-1, 0), -1);
        due("kind above, v bad too", x.fruit(7, 10), -1);
        due("v below", x.fruit(0, -1), -2);
        due("v above", x.fruit(6, 10), -2);
        due("none came", x.count(0), 0);
        for (int i = 0; i < 6; i++) {
            due("number", x.fruit(i + 1, 9 - i), i);
            due("kind", x.of(i, 0), i + 1);
            due("v", x.of(i, 1), 9 - i);
            due("not cut", x.of(i, 2), 0);
            due("had", x.of(i, 3), 0);
            due("ripe", x.of(i, 4), 0);
        }
        due("full", x.fruit(0, 0), -4);
        due("kind ahead of full", x.fruit(MIN, 0), -1);
        due("v ahead of full", x.fruit(0, MAX), -2);
        due("six", x.count(0), 6);
    }

    private static void of() {
        PearSummer x = of(PEAR, 4, LATE, 7);
        x.cut(1, true);
        x.set(0, 0, 33);
        x.set(0, 1, 77);
        due("kind", x.of(1, 0), 2);
        due("v", x.of(1, 1), 7);
        due("cut", x.of(1, 2), 1);
        due("had", x.of(0, 3), 33);
        due("ripe", x.of(0, 4), 77);
        due("hours", x.of(0, 5), 4095);
        due("a cut one has none", x.of(1, 5), 0);
        due("a cut one pulls", x.of(1, 21), 11);
        due("what 8", x.of(0, 8), FAR);
        due("what 9", x.of(0, 9), FAR);
        due("what 22", x.of(0, 22), FAR);
        due("what -1", x.of(0, -1), FAR);
        due("what least", x.of(0, MIN), FAR);
        due("what most", x.of(0, MAX), FAR);
        due("fruit -1", x.of(-1, 0), FAR);
        due("fruit 2", x.of(2, 0), FAR);
        x.cut(1, false);
        due("the first of several", x.of(0, 5), 63);
        due("the greater pull", x.of(1, 5), 4032);
    }

    private static void pullsOfKinds() {
        PearSummer x = of(PEAR, 0, EARLY, 0, LATE, 0, BELL, 1, TWIN, 0, TOLD, 2);
        x.row(5, 0, 4);
        x.row(5, 3, 9);
        wall(x, "shade 12 h>5");
        int[][] pulls = {
            {5, 5, 5, 5, 5, 5, -7, -7, -7, -7, -7, -7},
            {11, 10, 9, 8, 7, 6, -7, -7, -7, -7, -7, -7},
            {5, 5, 5, 5, 5, 5, -6, -5, -4, -3, -2, -1},
            {2, 2, 5, 2, 2, 5, -3, -3, -7, -3, -3, -7},
            {10, 9, 8, 7, 6, 5, -8, -8, -8, -8, -8, -8},
            {6, 5, 2, 11, 9, 2, -3, 2, 1, -3, -7, 6},
        };
        for (int p = 0; p < 6; p++) {
            for (int h = 0; h < 12; h++) {
                due("pull of " + p + " at " + h, x.of(p, 10 + h), pulls[p][h]);
            }
        }
        x.cut(3, true);
        due("a twin with the one ahead cut", x.of(4, 10), 11);
        x.cut(4, true);
        x.cut(3, false);
        due("a cut twin", x.of(4, 10), 10);
        PearSummer y = of(TWIN, 0, KEPT, 3);
        due("a twin with none ahead", y.of(0, 10), 11);
        due("kept, even day", y.of(1, 21), 11);
        y.pass(1);
        due("kept, odd day", y.of(1, 21), 0);
        due("kept, odd day, early", y.of(1, 10), 0);
        y.pass(1);
        due("kept, even day again", y.of(1, 21), 11);
    }

    private static void soleAndWhen() {
        PearSummer x = of(EARLY, 0, TWIN, 0, KEPT, 0);
        wall(x, "shade 5 k=4;shade 1 k=4&h=11;ripe 6");
        due("early has the first", x.of(0, 5), 63);
        due("kept has the last", x.of(2, 5), 4032);
        due("sole: the one ahead is cut then", x.of(1, 6), 63);
        due("sole: with a sum of 0 there is no hour", x.of(1, 6) & 64, 0);
        due("when", x.of(0, 7), 1);
        due("when of a kept one", x.of(2, 7), 1);
        due("never", x.of(1, 7), -5);
        x.cut(0, true);
        due("sole of a cut one", x.of(0, 6), 0);
        due("a cut one does not ripen", x.of(0, 7), -5);
        x.set(0, 1, 6);
        due("a cut one may be ripe", x.of(0, 7), 0);
        due("two hours, and six on the odd day, when the other is cut", x.of(1, 7), 2);
        due("asking changes nothing", x.of(1, 4), 0);
        PearSummer y = of(PEAR, 0);
        wall(y, "shade 6 h>0;ripe 30");
        due("on the last day asked", y.of(0, 7), 30);
        wall(y, "shade 6 h>0;ripe 31");
        due("a day too late", y.of(0, 7), -5);
        y.set(0, 1, 1);
        due("one more had", y.of(0, 7), 30);
        due("sole of a new one", of(PEAR, 0, PEAR, 0).of(1, 6), 4095);
    }

    private static void cut() {
        PearSummer x = of(PEAR, 0, PEAR, 0);
        due("none", x.cut(2, true), -1);
        due("below", x.cut(-1, true), -1);
        due("was not", x.cut(1, true), 0);
        due("was", x.cut(1, true), 1);
        due("only it", x.told(2), 2);
        due("was, too", x.cut(1, false), 1);
        due("was not, too", x.cut(1, false), 0);
        due("nobody", x.told(2), 0);
    }

    private static void set() {
        PearSummer x = of(PEAR, 0);
        due("no fruit, n bad", x.set(1, 0, -1), -1);
        due("no what, n bad", x.set(0, 2, -1), -1);
        due("what below", x.set(0, -1, 0), -1);
        due("had too large", x.set(0, 0, 4096), -2);
        due("had below", x.set(0, 0, -1), -2);
        due("ripe too large", x.set(0, 1, 10000), -2);
        due("ripe below", x.set(0, 1, -1), -2);
        due("had", x.set(0, 0, 4095), 0);
        due("had was", x.set(0, 0, 1), 4095);
        due("ripe", x.set(0, 1, 9999), 0);
        due("ripe was", x.set(0, 1, 0), 9999);
        due("had is", x.of(0, 3), 1);
        due("ripe is", x.of(0, 4), 0);
    }

    private static void row() {
        PearSummer x = of(BELL, 0, TOLD, 0);
        due("fruit", x.row(2, 0, 10), -1);
        due("part below", x.row(1, -1, 10), -1);
        due("part above", x.row(1, 4, 0), -1);
        due("n below", x.row(0, 0, -1), -2);
        due("n above", x.row(0, 0, 10), -2);
        due("another kind", x.row(0, 0, 9), -3);
        due("first", x.row(1, 3, 9), 0);
        due("was", x.row(1, 3, 8), 9);
        due("another part", x.row(1, 2, 1), 0);
        due("0", x.row(1, 0, 0), 0);
        due("pull at 3", x.of(1, 13), 13);
        due("pull at 7", x.of(1, 17), 10);
        due("pull at 2", x.of(1, 12), 3);
    }

    private static void feed() {
        PearSummer x = new PearSummer();
        due("below", x.feed(-1), -2);
        due("above", x.feed(128), -2);
        for (int i = 1; i <= 100; i++) {
            due("how many", x.feed(i), i);
        }
        due("full", x.feed(0), -4);
        due("bad ahead of full", x.feed(MAX), -2);
        due("kept", x.count(6), 100);
        due("a strange sign", x.wall(), -10);
        due("empty then", x.feed(127), 1);
    }

    private static void fault(String text, int place) {
        PearSummer x = of(PEAR, 0);
        wall(x, "ripe 7");
        due("the fault of " + text, wall(x, text), -10 - place);
        due("no wall by " + text, x.count(1), 1);
        due("the text is empty", x.count(6), 0);
        due("the one that held holds", x.told(1), 7);
    }

    private static void fine(String text) {
        PearSummer x = new PearSummer();
        due(text, wall(x, text), 0);
    }

    private static void wallFaults() {
        fault("", 0);
        fault("x", 0);
        fault(" ripe 1", 0);
        fault(";", 0);
        fault("s", 1);
        fault("sh", 2);
        fault("sx", 1);
        fault("s1 p=1", 1);
        fault("su1 p=1", 2);
        fault("sun1 p=1", 3);
        fault("rip 1", 3);
        fault("sun", 3);
        fault("sunny", 3);
        fault("shadow", 4);
        fault("shade1", 5);
        fault("sun  1 p=1", 4);
        fault("sun x p=1", 4);
        fault("sun 1", 5);
        fault("sun 12", 6);
        fault("sun 1  p=1", 6);
        fault("sun 1;", 5);
        fault("sun 1 ", 6);
        fault("sun 1 q=1", 6);
        fault("sun 1 p", 7);
        fault("sun 1 p!1", 7);
        fault("sun 1 p=", 8);
        fault("sun 1 p=-1", 8);
        fault("sun 1 p==1", 8);
        fault("sun 1 p<=1", 8);
        fault("sun 1 p=123", 10);
        fault("sun 1 p=1 ", 9);
        fault("sun 1 p=1&", 10);
        fault("sun 1 p=1|", 10);
        fault("sun 1 p=1||p=1", 10);
        fault("sun 1 p=1)", 9);
        fault("sun 1 (p=1", 10);
        fault("sun 1 (p=1;", 10);
        fault("sun 1 ()", 7);
        fault("sun 1 !", 7);
        fault("sun 1 !&p=1", 7);
        fault("sun 1 p=1!p=2", 9);
        fault("sun 1 p=1(p=2)", 9);
        fault("sun 1 (p=1)p=2", 11);
        fault("ripe", 4);
        fault("ripe ", 5);
        fault("ripe 100", 7);
        fault("ripe 1 p=1", 6);
        fault("ripe 1;", 7);
        fault("ripe 1;;", 7);
        fault("ripe 1; ripe 2", 7);
        fault("rope 1", 1);
        fault("Sun 1 p=1", 0);
        fault("ripe 1\n", 6);
    }

    private static void wallNesting() {
        fine("sun 1 ((((p=1))))");
        fault("sun 1 (((((p=1)))))", 10);
        fine("sun 1 !!!!p=1");
        fault("sun 1 !!!!!p=1", 10);
        fine("sun 1 !(!(p=1))");
        fault("sun 1 !(!(!p=1))", 10);
        fault("sun 1 !(!((p=1)))", 10);
        fine("sun 1 !!!!p=1&!!!!p=2|((((p=3))))");
        fine("sun 1 (((!p=1&!p=2)|(p=3))&(((p=4))))");
        fault("sun 1 (((!p=1&!p=2)|(p=3))&((((p=4)))))", 30);
    }

    private static void wallClauses() {
        PearSummer x = new PearSummer();
        due("ten", wall(x, "ripe 1;ripe 2;ripe 3;ripe 4;ripe 5;ripe 6;ripe 7;ripe 8;ripe 9;ripe 98"), 0);
        due("the last of ripe", x.told(1), 98);
        due("eleven", wall(x, "ripe 1;ripe 2;ripe 3;ripe 4;ripe 5;ripe 6;ripe 7;ripe 8;ripe 9;ripe 10;ripe 1"), -10 - 70);
        due("two digits", wall(x, "ripe 07"), 1);
        due("07", x.told(1), 7);
        due("no ripe in it", wall(x, "sun 1 p=1"), 2);
        due("30 then", x.told(1), 30);
        due("0", wall(x, "ripe 0;sun 1 p=1"), 3);
        due("0 is enough", x.told(1), 0);
        due("99", wall(x, "sun 1 p=1;ripe 99"), 4);
        due("the sixth", wall(x, "ripe 5"), 5);
        due("fed", wall(x, "ripe 6"), -4);
        due("the text stays", x.count(6), 6);
        due("the sixth holds", x.told(1), 5);
        due("six", x.count(1), 6);
        due("the text goes on", x.feed('1'), 7);
        due("full again", x.wall(), -4);
        PearSummer y = new PearSummer();
        StringBuilder text = new StringBuilder("sun 1 p=11");
        while (text.length() < 100) {
            text.append("|p=10&p=11");
        }
        due("a hundred signs", wall(y, text.toString()), 0);
        text.setLength(99);
        due("one less, ends well", wall(y, text.toString()), 1);
        text.setLength(98);
        due("ends too early", wall(y, text.toString()), -10 - 98);
    }

    private static int sumAt(PearSummer x, String text, int fruit, int hour) {
        wall(x, text);
        return x.of(fruit, 10 + hour);
    }

    /** Whether the expression holds for each hour of fruit 1 of a tree of three. */
    private static void holds(String e, int hours) {
        PearSummer x = of(PEAR, 0, PEAR, 6, PEAR, 9);
        x.set(1, 1, 129);
        x.pass(13);
        x.set(1, 1, 129);
        wall(x, "sun 10 " + e);
        int got = 0;
        for (int h = 0; h < 12; h++) {
            got |= x.of(1, 10 + h) == 15 ? 1 << h : 0;
        }
        due("hours at which " + e + " holds", got, hours);
    }

    private static void wallMeaning() {
        int all = 4095;
        holds("p=1", all);
        holds("p=0|p=2", 0);
        holds("k=0", all);
        holds("k>0", 0);
        holds("v=6", all);
        holds("v<6|v>6", 0);
        holds("r=12", all);
        holds("r<13&r>11", all);
        holds("d=3", all);
        holds("d=13", 0);
        holds("h=0", 1);
        holds("h=11", 2048);
        holds("h=12", 0);
        holds("h<0", 0);
        holds("h<5", 31);
        holds("h<12", all);
        holds("h<99", all);
        holds("h>0", 4094);
        holds("h>10", 2048);
        holds("h>11", 0);
        holds("h>99", 0);
        holds("!h>3", 15);
        holds("!h>3&h>1", 12);
        holds("!(h>3&h>1)", 15);
        holds("!!h=4", 16);
        holds("h=1|h=2&h=3", 2);
        holds("h=2&h=3|h=1", 2);
        holds("(h=1|h=2)&h=2", 4);
        holds("h=2&(h=1|h=2)", 4);
        holds("h=1|h=2|h=3|h=4&v=6&p=1", 30);
        holds("((h<4|h>7)&!(h=0|h=11))&p=1", 14 + 256 + 512 + 1024);
        holds("h<4&(h>0&(h>1&(h>2|(v=6))))", 12);
        holds("h<9&(h<8&(h<7&(h<6&h<5|h=6)|h=7)|h=8)|h=9", 31 + 64 + 512 + 128 + 256);
        holds("h=1|v=6&(h=2|v=6&(h=3|v=6&(h=4|v=6&(h=5|v=6&h=6))))", 126);
        holds("p=0;sun 1 p=0;sun 1 p=0;sun 1 p=0;sun 1 p=0;sun 1 p=0;sun 1 p=0;sun 10 p=9|p=1&(p=9|p=1&h=3)", 8);
    }

    private static void wallNumbers() {
        PearSummer x = of(PEAR, 0, BELL, 0);
        due("all sun together", sumAt(x, "sun 99 p=0;sun 98 k=0;sun 1 p=1", 0, 0), 5 + 99 + 98);
        due("less all shade", sumAt(x, "sun 99 p=0;shade 98 k=0;shade 99 h=0;sun 01 p=0", 0, 0), 5 + 99 - 98 - 99 + 1);
        due("another hour", x.of(0, 11), 7);
        due("another fruit", x.of(1, 10), -94);
        due("half toward 0", x.of(1, 11), 2);
        PearSummer y = of(PEAR, 0);
        for (int i = 0; i < 10; i++) {
            for (char sign : "sun 99 p=0".toCharArray()) {
                y.feed(sign);
            }
            y.feed(';');
        }
        due("ten clauses do not fit with a ; behind", y.wall(), -110);
    }

    private static void told() {
        PearSummer x = of(EARLY, 0, LATE, 0, PEAR, 0);
        x.pass(2);
        due("day", x.told(0), 2);
        due("ripe of all", x.told(3), 24);
        due("none is ripe", x.told(4), 0);
        wall(x, "ripe 12;shade 20 h=3");
        due("enough", x.told(1), 12);
        due("two are", x.told(4), 2);
        x.cut(1, true);
        due("not cut", x.told(4), 1);
        due("ripe of all, cut or not", x.told(3), 24);
        due("cut", x.told(2), 2);
        due("hour 0", x.told(10), 0);
        due("nobody's", x.told(13), -5);
        due("of several the first's", x.told(21), 0);
        due("5", x.told(5), FAR);
        due("9", x.told(9), FAR);
        due("22", x.told(22), FAR);
        due("-1", x.told(-1), FAR);
        due("least", x.told(MIN), FAR);
        x.cut(0, true);
        x.cut(2, true);
        due("all are cut", x.told(10), -5);
        due("all bits", x.told(2), 7);
        PearSummer y = of(EARLY, 0, LATE, 0, PEAR, 0, PEAR, 0, PEAR, 0, PEAR, 0);
        y.pass(5);
        due("six, together", y.told(3), 60);
        due("six, ripe", y.told(4), 2);
    }

    private static void pass() {
        PearSummer x = of(EARLY, 0, KEPT, 0, PEAR, 0);
        due("below", x.pass(-1), -2);
        due("above", x.pass(61), -2);
        due("none", x.pass(0), 0);
        due("one", x.pass(1), 1);
        due("had of 0", x.of(0, 3), 63);
        due("had of 1", x.of(1, 3), 4032);
        due("ripe of 1", x.of(1, 4), 6);
        due("another", x.pass(1), 2);
        due("on an odd day kept has none", x.of(1, 4), 6);
        due("and the first has them", x.of(0, 3), 4095);
        due("ripe of 0", x.of(0, 4), 18);
        x.cut(0, true);
        due("sixty", x.pass(60), 62);
        due("a cut one stays", x.of(0, 4), 18);
        due("kept on even days: all but those of several", x.of(1, 4), 6 + 30 * 12);
        due("the last on odd days", x.of(2, 4), 30 * 12);
        PearSummer y = of(PEAR, 0);
        wall(y, "shade 9 r=1&h<6");
        y.pass(2);
        due("by how ripe it is ahead of the day", y.of(0, 4), 18);
        y.set(0, 1, 9995);
        y.pass(1);
        due("9999 at most", y.of(0, 4), 9999);
    }

    private static void passToTheLastDay() {
        PearSummer x = of(PEAR, 0);
        for (int i = 0; i < 166; i++) {
            x.pass(60);
        }
        due("day", x.told(0), 9960);
        due("too far", x.pass(40), -3);
        due("bad ahead of state", x.pass(61), -2);
        due("nothing went", x.told(0), 9960);
        due("the last", x.pass(39), 9999);
        due("none more", x.pass(1), -3);
        due("no day", x.pass(0), 9999);
        due("ripe", x.of(0, 4), 9999);
    }

    private static void on() {
        PearSummer x = of(EARLY, 0, KEPT, 0, PEAR, 0);
        wall(x, "ripe 24");
        due("now", x.on(0, 20), 0);
        due("had on 1", x.on(1, 10), 63);
        due("had on 2", x.on(2, 10), 4095);
        due("ripe on 2", x.on(2, 20), 18);
        due("ripe of 1 on 2", x.on(2, 21), 6);
        due("ripe of 1 on 3", x.on(3, 21), 12);
        due("how many on 2", x.on(2, 0), 0);
        due("how many on 3", x.on(3, 0), 1);
        due("how many on 7", x.on(7, 0), 2);
        x.cut(0, true);
        due("had on 30", x.on(30, 12), 4095);
        due("the cut one", x.on(30, 20), 0);
        due("n below", x.on(-1, 0), -2);
        due("n above", x.on(31, 0), -2);
        due("what ahead of n", x.on(31, 1), -1);
        int[] none = {-1, 1, 9, 13, 15, 16, 19, 23, 26, 30, MIN, MAX};
        for (int what : none) {
            due("what " + what, x.on(1, what), -1);
        }
        due("nothing has gone", x.told(0), 0);
        due("nothing has ripened", x.told(3), 0);
    }

    private static void onBeyondTheLastDay() {
        PearSummer x = of(PEAR, 0);
        for (int i = 0; i < 167; i++) {
            x.pass(i < 166 ? 60 : 39);
        }
        wall(x, "shade 9 d=9&h>0;shade 9 d=0&h<10");
        due("beyond 9999 by a day", x.on(1, 20), 10000);
        due("by the next day", x.on(2, 20), 10002);
        due("by thirty", x.on(30, 20), 9999 + 3 + 3 * 2 + 24 * 12);
        due("it is as it was", x.of(0, 4), 9999);
    }

    private static void clear() {
        PearSummer x = of(PEAR, 0, EARLY, 0, LATE, 0, TWIN, 0);
        due("no fruit", x.clear(4, -1), -1);
        due("hours below", x.clear(0, -1), -2);
        due("hours above", x.clear(0, 4096), -2);
        due("nothing to clear", x.clear(0, 0), 0);
        due("its own", x.clear(1, 63), 0);
        due("one", x.clear(0, 64), 4);
        due("of equal pulls it is the first", x.clear(0, 32), 2);
        due("two, as the twin pulls more", x.clear(0, 2), 10);
        due("three", x.clear(0, 96), 14);
        due("a twin once the others are", x.clear(3, 1), 2);
        due("a twin with hours of the others", x.clear(3, 4095), 7);
        x.cut(1, true);
        due("what is cut is not told", x.clear(0, 1), 8);
        x.cut(0, true);
        due("it is cut", x.clear(0, 0), -5);
        due("asking cuts nothing", x.told(2), 3);
        PearSummer y = of(PEAR, 0, PEAR, 0, PEAR, 0);
        wall(y, "shade 5 p=2&h=4");
        due("it never has it", y.clear(2, 16), -5);
        due("the others", y.clear(2, 32), 3);
        // Fruit 1 wins hour 0 of fruit 2 only while it is no longer shaded by fruit 0.
        PearSummer z = of(PEAR, 0, TWIN, 0, EARLY, 0, LATE, 0);
        wall(z, "sun 9 p=3&h=0;sun 8 p=0&h=0");
        due("the cut of 0 makes the twin stronger", z.clear(2, 1), 11);
        due("fewest first", z.clear(1, 1), 9);
        PearSummer w = of(PEAR, 0, PEAR, 0, TWIN, 0);
        wall(w, "sun 1 p=2;shade 5 p=0;sun 6 p=1&h<6;shade 5 p=1&h>5");
        due("the one that has the first hours", w.clear(2, 1), 0b010);
        due("hours of all", w.clear(2, 4095), 0b010);
        PearSummer u = of(PEAR, 0, PEAR, 0, TWIN, 0);
        wall(u, "shade 1 p=0;shade 5 p=1");
        due("the first has the hour", u.told(21), 0);
        due("by the cut of 0 or of 1: the least as bits", u.clear(2, 2048), 0b001);
    }

    private static void help() {
        PearSummer x = of(PEAR, 0, EARLY, 0, LATE, 0, BELL, 0);
        due("no fruit", x.help(4, 0), -1);
        due("below", x.help(-1, 0), -1);
        due("what 2", x.help(0, 2), -1);
        due("what -1", x.help(0, -1), -1);
        due("who, of several the first", x.help(0, 0), 1);
        due("how many", x.help(0, 1), 6);
        due("nobody helps", x.help(1, 0), -5);
        due("by none", x.help(1, 1), -5);
        due("a bell", x.help(3, 0), -5);
        due("a bell, how many", x.help(3, 1), -5);
        x.cut(1, true);
        due("what is cut does not help", x.help(0, 0), 2);
        due("it helps by", x.help(0, 1), 6);
        due("a cut one", x.help(1, 0), -5);
        due("a cut one, how many", x.help(1, 1), -5);
        due("asking cuts nothing", x.told(2), 2);
        PearSummer y = of(LATE, 0, TWIN, 0, EARLY, 0);
        due("one that is ahead takes hours and gives some", y.help(1, 0), 0);
        due("so many", y.help(1, 1), 12);
        PearSummer z = of(PEAR, 0, PEAR, 0);
        wall(z, "shade 5 p=0&h>0");
        due("one hour more is help", z.help(1, 0), 0);
        due("one hour more", z.help(1, 1), 1);
    }

    private static void want() {
        PearSummer x = new PearSummer();
        due("below", x.want(-2), -2);
        due("above", x.want(4096), -2);
        for (int i = 1; i <= 6; i++) {
            due("rows", x.want(i == 6 ? 4095 : i - 1), i);
        }
        due("full", x.want(0), -4);
        due("bad ahead of full", x.want(MIN), -2);
        due("six", x.count(2), 6);
        due("none then", x.want(-1), 0);
        due("none", x.count(2), 0);
        due("anew", x.want(7), 1);
    }

    private static void sent() {
        PearSummer x = of(PEAR, 0, PEAR, 0, PEAR, 0);
        due("no want", x.sent(-1), 0);
        due("no row", x.sent(0), -1);
        due("below", x.sent(-2), -1);
        x.set(0, 0, 7);
        x.set(1, 0, 1);
        x.want(1);
        due("the first of several", x.sent(0), 0);
        x.want(6);
        due("two", x.sent(-1), 2);
        due("the first gives way", x.sent(0), 1);
        due("to the second", x.sent(1), 0);
        x.want(2);
        due("still two", x.sent(-1), 2);
        due("the first as a row", x.sent(0), 1);
        due("second", x.sent(1), 0);
        due("third has none", x.sent(2), -5);
        x.want(0);
        due("no hours: anyone", x.sent(3), 2);
        due("three", x.sent(-1), 3);
        due("no such row", x.sent(4), -1);
        due("no such row at all", x.sent(MAX), -1);
        x.cut(1, true);
        due("a cut one is not sent", x.sent(-1), 2);
        due("the first has the one", x.sent(0), 0);
        due("the second none", x.sent(1), -5);
        due("the last the other", x.sent(3), 2);
        PearSummer y = of(PEAR, 0, PEAR, 0);
        y.want(1);
        y.want(0);
        y.want(0);
        y.want(0);
        due("the first want that none fits", y.sent(0), -5);
        due("then one by one", y.sent(1), 0);
        due("the next", y.sent(2), 1);
        due("none is left", y.sent(3), -5);
        PearSummer z = new PearSummer();
        z.want(0);
        due("no fruit", z.sent(-1), 0);
        due("no fruit for it", z.sent(0), -5);
        PearSummer all = of(PEAR, 0, PEAR, 0, PEAR, 0, PEAR, 0, PEAR, 0, PEAR, 0);
        for (int i = 0; i < 6; i++) {
            all.set(i, 0, 1 << 5 - i);
            all.want(1 << i);
        }
        due("all six", all.sent(-1), 6);
        for (int i = 0; i < 6; i++) {
            due("the one that fits", all.sent(i), 5 - i);
        }
        all.want(-1);
        all.want(64);
        due("other wants, and none is given one", all.sent(-1), 0);
        due("none of six fits", all.sent(0), -5);
    }

    private static void see() {
        PearSummer x = of(PEAR, 0);
        due("no fruit", x.see(1, -1), -1);
        due("-2", x.see(-2, 0), -1);
        due("hours below", x.see(0, -1), -2);
        due("hours above", x.see(0, 4096), -2);
        for (int i = 1; i <= 5; i++) {
            due("rows", x.see(0, 4095), i);
        }
        due("full", x.see(0, 0), -4);
        due("bad ahead of full", x.see(0, 4096), -2);
        due("five", x.count(3), 5);
        due("none then, whatever the hours", x.see(-1, MIN), 0);
        due("none", x.count(3), 0);
    }

    private static void can() {
        PearSummer x = of(BELL, 5, PEAR, 5);
        due("no fruit", x.can(2, 0), -1);
        due("no what", x.can(0, 2), -1);
        due("what below", x.can(0, -1), -1);
        due("nothing seen: all", x.can(0, 0), 10);
        due("the least", x.can(0, 1), 0);
        x.see(0, 0b010010010010);
        due("hours 1, 4, 7, 10: v 2, 5, 8", x.can(0, 0), 3);
        due("the least of them", x.can(0, 1), 2);
        due("a pear's v tells nothing", x.can(1, 0), 10);
        x.see(0, 0b010010010011);
        due("not all can be so", x.can(0, 0), 0);
        due("none", x.can(0, 1), -5);
        x.see(-1, 0);
        x.see(0, 2);
        due("all its hours, not some", x.can(0, 0), 0);
        x.see(-1, 0);
        wall(x, "sun 9 v>5&p=1");
        x.see(1, 4095);
        due("by a wall", x.can(1, 0), 4);
        due("the least by a wall", x.can(1, 1), 6);
        due("as it is it is not so", x.can(0, 0), 0);
        due("its v stays", x.of(1, 1), 5);
    }

    private static void which() {
        PearSummer x = of(PEAR, 0, KEPT, 0);
        due("no what", x.which(2), -1);
        due("below", x.which(-1), -1);
        due("all", x.which(0), 10);
        due("this one", x.which(1), 0);
        x.see(0, 4095);
        due("odd days", x.which(0), 5);
        due("the first", x.which(1), 1);
        x.pass(1);
        due("counted from this one", x.which(1), 0);
        wall(x, "shade 9 d=0&h<3&p=0");
        x.see(-1, 0);
        x.see(0, 4095 - 7);
        due("never: kept has some", x.which(0), 0);
        due("never", x.which(1), -5);
        x.cut(1, true);
        due("one of ten", x.which(0), 1);
        due("the ninth on", x.which(1), 9);
        x.see(0, 4095);
        due("both cannot be", x.which(0), 0);
        due("the day stays", x.told(0), 1);
    }

    private static void odds() {
        PearSummer x = of(EARLY, 0, PEAR, 0, LATE, 0, PEAR, 0);
        due("no fruit", x.odds(4, 0, 0), NO);
        due("fruit below", x.odds(-1, 0, 0), NO);
        due("no hour", x.odds(0, 12, 0), NO);
        due("hour below", x.odds(0, -1, 0), NO);
        due("no part", x.odds(0, 0, 2), NO);
        due("part below", x.odds(0, 0, -1), NO);
        due("all but itself", x.odds(0, 0, 0), 3);
        due("of four", x.odds(0, 0, 1), 4);
        due("if the first is cut", x.odds(1, 0, 0), 1);
        due("of four, too", x.odds(1, 0, 1), 4);
        due("never", x.odds(3, 0, 0), 0);
        due("0 of 1", x.odds(3, 0, 1), 1);
        x.cut(0, true);
        due("one is cut already", x.odds(1, 0, 0), 3);
        due("it counts", x.odds(1, 0, 1), 4);
        due("a cut one", x.odds(0, 0, 0), 0);
        due("nothing is cut", x.told(2), 1);
        x.cut(2, true);
        PearSummer y = of(PEAR, 0, PEAR, 0);
        due("a half, above", y.odds(1, 3, 0), 1);
        due("a half, below", y.odds(1, 3, 1), 2);
        PearSummer z = of(PEAR, 0, PEAR, 0, PEAR, 0, PEAR, 0, EARLY, 0, TWIN, 0);
        z.cut(5, true);
        due("of six, lowest", z.odds(4, 0, 0), 5);
        due("six", z.odds(4, 0, 1), 6);
        z.cut(0, true);
        wall(z, "sun 9 p=1&h=0;sun 3 p=4&h=0");
        due("none of them", z.odds(3, 0, 1), 1);
        due("one in six", z.odds(4, 0, 1), 6);
        due("lowest above", z.odds(4, 0, 0), 1);
    }

    private static void mean() {
        PearSummer x = new PearSummer();
        due("no fruit", x.mean(0), NO);
        x.fruit(0, 0);
        x.fruit(0, 0);
        x.fruit(0, 0);
        x.fruit(0, 0);
        due("0", x.mean(0), 0);
        due("of 1", x.mean(1), 1);
        due("part", x.mean(2), NO);
        due("part below", x.mean(-1), NO);
        x.set(0, 1, 9999);
        x.set(1, 1, 3);
        due("whole, above", x.mean(0), 5001);
        due("whole, below", x.mean(1), 2);
        x.cut(0, true);
        due("cut, too", x.mean(0), 5001);
        x.set(2, 1, 1);
        due("above", x.mean(0), 10003);
        due("below", x.mean(1), 4);
        PearSummer y = of(PEAR, 0);
        y.set(0, 1, 8);
        due("of one, above", y.mean(0), 8);
        due("of one, below", y.mean(1), 1);
    }

    private static void plan() {
        PearSummer x = of(PEAR, 0);
        due("what above", x.plan(4, 0), -1);
        due("what below", x.plan(-2, 0), -1);
        due("fruit", x.plan(1, 1), -1);
        due("fruit below", x.plan(3, -1), -1);
        due("by 0 any", x.plan(0, 100), 1);
        for (int i = 2; i <= 10; i++) {
            due("rows", x.plan(i % 4, 0), i);
        }
        due("full", x.plan(0, 0), -4);
        due("none ahead of full", x.plan(1, 6), -1);
        due("ten", x.count(4), 10);
        due("empty", x.plan(-1, 77), 0);
        due("none", x.count(4), 0);
    }

    private static void ends() {
        PearSummer x = of(EARLY, 0, PEAR, 0, TWIN, 0);
        wall(x, "ripe 12");
        due("what", x.ends(2), -1);
        due("what below", x.ends(-1), -1);
        x.set(1, 1, 12);
        due("no plan: now", x.ends(0), 12);
        due("no plan: how many", x.ends(1), 1);
        x.plan(0, 0);
        due("a day", x.ends(0), 24);
        due("two are", x.ends(1), 2);
        x.plan(1, 0);
        due("cut: not counted", x.ends(1), 1);
        due("cut: ripe counts", x.ends(0), 24);
        x.plan(0, 0);
        due("others have the day", x.ends(0), 36);
        x.plan(3, 1);
        due("ripe is 0", x.ends(0), 36 - 12 - 7);
        due("only what is left", x.ends(1), 0);
        x.plan(2, 0);
        due("not cut", x.ends(1), 1);
        due("nothing went", x.told(3), 12);
        due("nothing is cut", x.told(2), 0);
        due("day", x.told(0), 0);
        x.plan(-1, 0);
        x.set(1, 1, 9999);
        x.cut(0, true);
        x.cut(2, true);
        x.plan(0, 0);
        due("beyond 9999", x.ends(0), 10011);
    }

    private static void book() {
        PearSummer x = of(PEAR, 0);
        due("no fruit", x.book(1, -1), -1);
        due("-2", x.book(-2, 0), -1);
        due("hours below", x.book(0, -1), -2);
        due("hours above", x.book(0, 4096), -2);
        for (int i = 1; i <= 8; i++) {
            due("rows", x.book(0, 4095), i);
        }
        due("full", x.book(0, 0), -4);
        due("bad ahead of full", x.book(0, MAX), -2);
        due("eight", x.count(5), 8);
        due("empty", x.book(-1, -7), 0);
        due("none", x.count(5), 0);
    }

    private static void looked() {
        PearSummer x = of(PEAR, 0, PEAR, 0);
        due("no row", x.looked(), -5);
        x.set(0, 0, 3);
        x.book(0, 3);
        x.book(1, 0);
        due("as told", x.looked(), -5);
        x.book(1, 1);
        x.book(0, 1);
        due("the first", x.looked(), 2);
        x.set(1, 0, 1);
        due("another now", x.looked(), 1);
        x.set(0, 0, 1);
        due("the first row", x.looked(), 0);
    }

    private static void judge() {
        PearSummer x = new PearSummer();
        due("no tape", x.judge(6, 0), -1);
        due("below", x.judge(-1, 0), -1);
        due("no fruit", x.judge(0, -1), -5);
        x.tape(1, 3, 5);
        due("longs, no fruit", x.judge(1, -1), -12);
        x.fruit(0, 0);
        x.fruit(0, 0);
        x.fruit(0, 0);
        due("nothing there", x.judge(0, 0), 100);
        due("longs", x.judge(1, 0), -12);
        x.tape(0, 2, 4);
        x.set(1, 0, 4095);
        due("the first otherwise", x.judge(0, 0), 1);
        due("the place is below 0", x.judge(0, -1), 100);
        due("least place", x.judge(0, MIN), 100);
        due("behind the end", x.judge(0, 4), 100);
        due("far behind the end", x.judge(0, MAX), 100);
        x.item(0, 1, 4095);
        due("as told", x.judge(0, 0), -5);
        x.item(0, 2, 4095);
        x.item(0, 1, 0);
        due("as told from 1 on", x.judge(0, 1), -5);
        due("otherwise, the first of all", x.judge(0, 2), 0);
        x.tape(0, 2, 2);
        x.item(0, 1, 4095);
        due("two were looked at", x.judge(0, 0), 102);
        x.tape(0, 2, 0);
        due("an empty row", x.judge(0, 0), 100);
        for (int sort = 0; sort < 5; sort++) {
            x.tape(2, sort, 3);
            due("sort " + sort, x.judge(2, 0), sort == 2 ? 1 : -12);
        }
    }

    private static void image() {
        PearSummer x = new PearSummer();
        due("no fruit", x.image(), 0);
        x.fruit(0, 0);
        due("one", x.image(), 1);
        x.fruit(0, 0);
        due("two", x.image(), 2);
        x.cut(0, true);
        x.undo();
        due("the newest image", x.count(0), 2);
        due("as it was", x.told(2), 0);
    }

    private static void undo() {
        PearSummer x = of(PEAR, 1, TOLD, 2);
        due("no image", x.undo(), -3);
        wall(x, "ripe 9");
        x.set(0, 0, 5);
        x.set(0, 1, 6);
        x.row(1, 2, 7);
        x.pass(3);
        x.want(1);
        x.see(0, 2);
        x.plan(0, 0);
        x.book(0, 5);
        x.image();
        x.fruit(EARLY, 3);
        x.set(2, 0, 9);
        x.set(2, 1, 50);
        x.cut(0, true);
        x.cut(2, true);
        x.set(0, 0, 0);
        x.set(0, 1, 0);
        x.row(1, 2, 0);
        x.pass(2);
        x.want(2);
        x.see(1, 0);
        x.plan(1, 2);
        x.book(2, 0);
        wall(x, "ripe 8");
        x.feed('r');
        x.act(0, 0, 1);
        x.tape(0, 2, 3);
        due("how many", x.undo(), 2);
        due("fruit", x.count(0), 2);
        due("had", x.of(0, 3), 5 | x.of(0, 5));
        due("ripe", x.of(0, 4), 6 + 3 * Integer.bitCount(x.of(0, 5)));
        due("row", x.row(1, 2, 7), 7);
        due("day", x.told(0), 3);
        due("cut", x.told(2), 0);
        due("wall", x.told(1), 9);
        due("walls stay", x.count(1), 2);
        due("wants", x.count(2), 1);
        due("seen", x.count(3), 1);
        due("plan", x.count(4), 1);
        due("book", x.count(5), 1);
        due("the text stays", x.count(6), 1);
        due("the trace stays", x.count(7), 1);
        due("tapes stay", x.read(0, 2), 0);
        x.feed('x');
        x.wall();
        due("the one that held holds", x.told(1), 9);
        due("a fruit in the place of the lost one", x.fruit(TOLD, 4), 2);
        due("not cut", x.of(2, 2), 0);
        due("nothing had", x.of(2, 3), 0);
        due("not ripe", x.of(2, 4), 0);
        due("no row", x.row(2, 0, 3), 0);
        due("the image stays", x.undo(), 2);
        x.fruit(TOLD, 4);
        due("no row again", x.row(2, 0, 3), 0);
        due("the next wall's number", wall(x, "ripe 7"), 2);
        PearSummer y = of(PEAR, 0);
        y.image();
        wall(y, "ripe 3");
        y.undo();
        due("no wall holds", y.told(1), 30);
        due("there is one", y.count(1), 1);
        rowsAreAsTheyWere();
    }

    private static void rowsAreAsTheyWere() {
        PearSummer x = of(TOLD, 0, PEAR, 0);
        x.row(0, 1, 6);
        x.set(1, 0, 12);
        x.want(4);
        x.see(1, 0b101101101101 & ~0b001000100010);
        x.plan(1, 0);
        x.plan(0, 0);
        x.book(1, 12);
        x.image();
        int[] before = {x.sent(0), x.which(0), x.can(0, 1), x.ends(0), x.looked(), x.told(11)};
        x.row(0, 1, 0);
        x.want(-1);
        x.want(1);
        x.see(-1, 0);
        x.see(0, 77);
        x.plan(-1, 0);
        x.plan(3, 1);
        x.plan(3, 1);
        x.book(-1, 0);
        x.book(0, 1);
        due("another want", x.sent(0), -5);
        due("another sight", x.which(0), 0);
        due("another plan", x.ends(0), 0);
        due("another book", x.looked(), 0);
        x.undo();
        int[] behind = {x.sent(0), x.which(0), x.can(0, 1), x.ends(0), x.looked(), x.told(11)};
        for (int i = 0; i < before.length; i++) {
            due("row " + i + " as it was", behind[i], before[i]);
        }
        due("sent", behind[0], 1);
        due("ends", behind[3], 12);
        due("looked", behind[4], -5);
        due("told", behind[5], 0);
        x.see(-1, 0);
        x.see(1, x.of(1, 5));
        x.image();
        x.see(-1, 0);
        x.see(0, 77);
        x.undo();
        due("seen as it was", x.which(0), 10);
    }

    private static void act() {
        PearSummer x = of(PEAR, 3, EARLY, 3, LATE, 3, BELL, 3, TWIN, 3, TOLD, 3);
        due("pear warms", x.act(0, 0, 5), 5);
        due("pear swells", x.act(0, 1, 5), 2);
        due("pear tells", x.act(0, 2, 5), 4);
        due("early warms", x.act(1, 0, 5), 6);
        due("early swells", x.act(1, 1, 5), (5 + 1 - 3) ^ 6);
        due("early tells", x.act(1, 2, 5), ((5 + 1 - 3) ^ 6) * 2);
        due("late warms", x.act(2, 0, 5), 17);
        due("late swells", x.act(2, 1, 5), 14);
        due("late tells", x.act(2, 2, 5), 28);
        due("bell tells", x.act(3, 2, 5), (5 + 3 - 3) * 2 + (1 + 3 - 3));
        due("twin warms", x.act(4, 0, 5), -9);
        due("twin swells", x.act(4, 1, 5), (-(6 + 4) - 3) ^ 6);
        due("twin tells", x.act(4, 2, 5), ((-(6 + 4) - 3) ^ 6) * 2);
        due("told warms", x.act(5, 0, 5), (5 + 5) ^ 3);
        int swells5 = ((5 + 5) ^ 3) - 3 + 7;
        int swells1 = ((1 + 5) ^ 3) - 3 + 7;
        due("told swells", x.act(5, 1, 5), swells5);
        due("told tells", x.act(5, 2, 5), swells5 * 2 + swells1);
        PearSummer y = of(PEAR, 0, KEPT, 3);
        due("kept warms", y.act(1, 0, 5), 16);
        due("kept tells", y.act(1, 2, 5), ((5 - 1) * 3 + 1 - 3) * 2);
        due("wrapping", y.act(1, 0, MAX), MAX * 3 + 1);
        due("wrapping below", y.act(1, 2, MIN), (((MIN - 1) * 3 + 1) - 3) * 2);
        due("no fruit", y.act(2, 0, 5), 0);
        due("no trace", y.count(7), 0);
        y.act(1, 0, 5);
        due("no act", y.act(1, 3, 5), 0);
        due("no trace, too", y.trace(0), -1);
        due("act below", y.act(1, -1, 5), 0);
        due("fruit below", y.act(-1, 0, 5), 0);
    }

    private static void ran(PearSummer x, int fruit, int act, int... bodies) {
        x.act(fruit, act, 1);
        due("bodies of " + fruit + " " + act, x.count(7), bodies.length);
        for (int i = 0; i < bodies.length; i++) {
            due("body " + i + " of " + fruit + " " + act, x.trace(i), bodies[i]);
        }
        due("no body", x.trace(bodies.length), -1);
    }

    private static void trace() {
        PearSummer x = of(PEAR, 0, EARLY, 0, LATE, 0, BELL, 0, TWIN, 0, TOLD, 0);
        due("no act yet", x.trace(0), -1);
        ran(x, 0, 2, 12, 11, 10);
        ran(x, 1, 2, 12, 20, 11, 10);
        ran(x, 2, 1, 11, 30, 10);
        ran(x, 3, 2, 40, 12, 11, 10, 11, 10);
        ran(x, 4, 2, 12, 51, 20, 11, 50, 10);
        ran(x, 5, 2, 40, 12, 70, 11, 71, 10, 10, 70, 11, 71, 10, 10);
        ran(x, 5, 0, 71, 10);
        PearSummer y = of(KEPT, 0);
        ran(y, 0, 2, 60, 12, 11, 30, 10);
        due("below", y.trace(-1), -1);
        due("least", y.trace(MIN), -1);
        due("far", y.trace(MAX), -1);
    }

    private static void taken() {
        boolean[][] isUnder = {
            {true, false, false, false, false, false, false},
            {true, true, false, false, false, false, false},
            {true, false, true, false, false, false, false},
            {true, false, false, true, false, false, false},
            {true, true, false, false, true, false, false},
            {true, false, true, false, false, true, false},
            {true, false, false, true, false, false, true},
        };
        for (int kind = 0; kind < 7; kind++) {
            PearSummer x = of(kind, 0);
            for (int k = 0; k < 7; k++) {
                due("kind " + kind + " taken for " + k, x.taken(0, k), isUnder[kind][k] ? kind : -12);
            }
            due("k ahead of fruit", x.taken(1, 7), -2);
            due("k below", x.taken(0, -1), -2);
            due("no fruit", x.taken(1, 0), -11);
            due("fruit below", x.taken(-1, 6), -11);
        }
    }

    private static void count() {
        PearSummer x = of(PEAR, 0, PEAR, 0);
        wall(x, "ripe 1");
        for (int i = 0; i < 3; i++) {
            x.want(0);
        }
        for (int i = 0; i < 4; i++) {
            x.see(0, 0);
        }
        for (int i = 0; i < 5; i++) {
            x.plan(0, 0);
        }
        for (int i = 0; i < 6; i++) {
            x.book(0, 0);
        }
        for (int i = 0; i < 7; i++) {
            x.feed(0);
        }
        x.act(0, 2, 0);
        int[] many = {2, 1, 3, 4, 5, 6, 7, 3};
        for (int what = 0; what < 8; what++) {
            due("what " + what, x.count(what), many[what]);
        }
        due("8", x.count(8), -2);
        due("-1", x.count(-1), -2);
        due("most", x.count(MAX), -2);
    }

    private static void tape() {
        PearSummer x = new PearSummer();
        due("tape above", x.tape(6, 5, 61), -1);
        due("tape below", x.tape(-1, 0, 0), -1);
        due("sort above", x.tape(0, 5, -1), -2);
        due("sort below", x.tape(0, -2, -1), -2);
        due("n above", x.tape(0, 0, 61), -2);
        due("n below", x.tape(0, 0, -1), -14);
        due("least", x.tape(0, 0, MIN), -14);
        due("nothing came", x.item(0, 0, 0), -11);
        due("sixty", x.tape(0, 3, 60), 1);
        due("the last", x.item(0, 59, 7), 1);
        due("the refused change nothing", x.tape(0, 0, 61) + x.read(0, 59), -2 + 7);
        due("anew", x.tape(0, 3, 60), 1);
        due("all 0", x.read(0, 59), 0);
        due("none long", x.tape(0, 4, 0), 1);
        due("no place", x.item(0, 0, 1), -13);
        due("nothing", x.tape(0, -1, MIN), 1);
        due("nothing there", x.item(0, 0, 1), -11);
        due("the fifth", x.tape(5, 0, 1), 1);
    }

    private static void item() {
        PearSummer x = new PearSummer();
        due("tape", x.item(6, 0, 0), -1);
        due("tape below", x.item(-1, 0, 0), -1);
        due("nothing, no place", x.item(0, -1, 0), -11);
        long v = 0x123456789ABCDEF0L - 0x30;
        long[] as = {(byte) v, (short) v, (int) v, v, 1};
        for (int sort = 0; sort < 5; sort++) {
            x.tape(sort, sort, 2);
            due("place above", x.item(sort, 2, 0), -13);
            due("place below", x.item(sort, -1, 0), -13);
            due("comes", x.item(sort, 1, v), 1);
            due("is", x.read(sort, 1), as[sort]);
            due("the other", x.read(sort, 0), 0);
            due("least", x.item(sort, 0, Long.MIN_VALUE), 1);
            due("is, too", x.read(sort, 0), sort == 3 ? Long.MIN_VALUE : sort == 4 ? 1 : 0);
        }
        x.item(4, 1, 0);
        due("false", x.read(4, 1), 0);
        x.item(4, 1, 256);
        due("not 0", x.read(4, 1), 1);
        x.item(0, 0, 128);
        due("a byte", x.read(0, 0), -128);
        x.item(1, 0, 32768);
        due("a short", x.read(1, 0), -32768);
        x.item(2, 0, 1L << 31);
        due("an int", x.read(2, 0), MIN);
    }

    private static void read() {
        PearSummer x = new PearSummer();
        due("tape", x.read(6, 0), NO);
        due("tape below", x.read(-1, 0), NO);
        due("nothing", x.read(0, 0), NO);
        x.tape(0, 2, 2);
        x.item(0, 0, -9);
        due("item", x.read(0, 0), -9);
        due("place above", x.read(0, 2), NO);
        due("place below", x.read(0, -1), NO);
        x.tape(0, -1, 0);
        due("nothing again", x.read(0, 0), NO);
        x.tape(0, 2, 5);
        x.item(0, 4, 4);
        x.tape(0, 2, 3);
        due("shorter", x.read(0, 4), NO);
        x.tape(0, 2, 5);
        due("0 again", x.read(0, 4), 0);
    }

    private static void shift() {
        PearSummer x = new PearSummer();
        x.tape(0, 2, 5);
        x.tape(1, 2, 3);
        x.tape(2, 3, 3);
        for (int i = 0; i < 5; i++) {
            x.item(0, i, i + 1);
        }
        due("tape", x.shift(6, 0, 0, 0, 1), -1);
        due("other", x.shift(0, 0, -1, 0, 1), -1);
        due("nothing", x.shift(3, 0, 0, 0, 1), -11);
        due("nothing there", x.shift(0, -1, 3, 0, 1), -11);
        due("sorts", x.shift(0, -1, 2, 0, 1), -12);
        due("n below", x.shift(0, 0, 1, 0, -1), -13);
        due("i below", x.shift(0, -1, 1, 0, 1), -13);
        due("j below", x.shift(0, 0, 1, -1, 1), -13);
        due("beyond its end", x.shift(0, 3, 1, 0, 3), -13);
        due("beyond the other's end", x.shift(0, 0, 1, 1, 3), -13);
        due("far", x.shift(0, MAX, 1, 0, 1), -13);
        due("far, too", x.shift(0, 0, 1, MAX, MAX), -13);
        due("none, from the end", x.shift(0, 5, 1, 3, 0), 0);
        due("none, beyond the end", x.shift(0, 6, 1, 0, 0), -13);
        due("none, beyond the other's", x.shift(0, 0, 1, 4, 0), -13);
        due("three", x.shift(0, 2, 1, 0, 3), 3);
        due("first", x.read(1, 0), 3);
        due("last", x.read(1, 2), 5);
        due("the same, on", x.shift(0, 0, 0, 1, 4), 4);
        for (int i = 1; i < 5; i++) {
            due("as it was before, " + i, x.read(0, i), i);
        }
        due("the same, back", x.shift(0, 2, 0, 0, 3), 3);
        due("back first", x.read(0, 0), 2);
        due("back last", x.read(0, 2), 4);
        due("behind it", x.read(0, 3), 3);
        due("the other is its own", x.read(1, 0), 3);
        due("a whole one", x.shift(0, 0, 0, 0, 5), 5);
    }
}
