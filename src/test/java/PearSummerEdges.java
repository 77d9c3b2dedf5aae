import java.util.ArrayList;
import java.util.Arrays;
import java.util.List;
import java.util.regex.Matcher;
import java.util.regex.Pattern;

/**
 * The boundary cases that the document names, each as a run of calls of its own on a new object.
 *
 * A run is a text of calls: "fruit(PEAR, 9) = 0" is looked at; without "=" it must only not be refused;
 * "6 x want(0)" is done six times; "wall 'ripe 1'" feeds the signs and calls wall(), "feed 'ri'" only feeds.
 *
 * Behind each question and each refused call that is looked at, the same run is done again, once with and
 * once without it, and all that can be seen of the two objects must be the same: it has changed nothing.
 */
public final class PearSummerEdges {
    private static final int MOST_CALLS = 512;
    private static final String SIX = " fruit(PEAR, 0) fruit(EARLY, 1) fruit(LATE, 2) fruit(BELL, 3) fruit(TWIN, 4) fruit(TOLD, 5) ";
    private static final String SIX_TOLD = " 6 x fruit(TOLD, 0) ";
    private static final String TO_9960 = " 166 x pass(60) ";
    private static final String TO_9999 = TO_9960 + " pass(39) = 9999 ";

    private static String part;
    private static int runs;
    private static int wrong;

    public static void main(String[] args) {
        termsOfHoursAndFruit();
        termsOfWalls();
        termsOfPulls();
        termsOfDays();
        termsOfCutting();
        allThatCounts();
        termsOfSending();
        termsOfSeenAndOdds();
        termsOfPlansAndBooks();
        termsOfActs();
        termsOfTheImage();
        termsOfTapes();
        promises1To9();
        promises10To18();
        promises19To27();
        promises28To35();
        whatIsRefusedAndAskedChangesNothing();
        System.out.println(wrong == 0 ? runs + " runs at the edges are as promised" : wrong + " answers are not as promised");
        if (wrong != 0) {
            System.exit(1);
        }
    }

    // ---- part 1 of the terms

    private static void termsOfHoursAndFruit() {
        part = "HOURS 0 .. 11, sets of them as bits (0 .. 4095)";
        edge("HOUR 0 is the first", "fruit(EARLY, 0) of(0, 10) = 11 told(10) = 0 odds(0, 0, 1) = 1");
        edge("none is ahead of it", "fruit(PEAR, 0) of(0, 9) = FAR told(9) = FAR odds(0, -1, 1) = NO");
        edge("HOUR 11 is the last", "fruit(LATE, 0) of(0, 21) = 11 told(21) = 0 odds(0, 11, 1) = 1");
        edge("none is behind it", "fruit(PEAR, 0) of(0, 22) = FAR told(22) = FAR odds(0, 12, 1) = NO");
        edge("the least set", "fruit(PEAR, 0) set(0, 0, 0) = 0 clear(0, 0) = 0 want(0) = 1 see(0, 0) = 1 book(0, 0) = 1");
        edge("the greatest set", "fruit(PEAR, 0) set(0, 0, 4095) = 0 clear(0, 4095) = 0 want(4095) = 1 see(0, 4095) = 1 book(0, 4095) = 1");
        for (String no : new String[] {"4096", "4097", "8191", "MAX", "MIN", "-2"}) {
            edge(no + " is no set", "fruit(PEAR, 0) set(0, 0, " + no + ") = BAD clear(0, " + no + ") = BAD want(" + no
                + ") = BAD see(0, " + no + ") = BAD book(0, " + no + ") = BAD");
        }
        edge("-1 is no set", "fruit(PEAR, 0) set(0, 0, -1) = BAD clear(0, -1) = BAD see(0, -1) = BAD book(0, -1) = BAD");
        edge("bit 0 is HOUR 0", "fruit(PEAR, 0) wall 'shade 5 h>0' of(0, 5) = 1");
        edge("bit 11 is HOUR 11", "fruit(PEAR, 0) wall 'shade 5 h<11' of(0, 5) = 2048");
        edge("all twelve", "fruit(PEAR, 0) of(0, 5) = 4095");

        part = "FRUIT 0 .. 5, as they come";
        edge("the first is 0", "fruit(TOLD, 9) = 0 of(0, 0) = 6");
        edge("the last is 5", "5 x fruit(PEAR, 0) fruit(LATE, 7) = 5 of(5, 0) = 2 of(5, 1) = 7 count(0) = 6");
        edge("there is no 6", "6 x fruit(PEAR, 0) fruit(PEAR, 0) = FULL of(6, 0) = FAR count(0) = 6");
        fruitNumbers();

        part = "with a number v (0 .. 9), CUT, or not (not at first), HAD (none at first), RIPE (0 .. 9999; 0 at first)";
        edge("not CUT at first", "fruit(PEAR, 0) of(0, 2) = 0 told(2) = 0");
        edge("HAD none at first", "fruit(PEAR, 0) of(0, 3) = 0");
        edge("RIPE 0 at first", "fruit(PEAR, 0) of(0, 4) = 0 told(3) = 0");
        edge("all at first, on a later DAY, too", "fruit(PEAR, 0) pass(9) fruit(PEAR, 0) of(1, 2) = 0 of(1, 3) = 0 of(1, 4) = 0");
        edge("DAY 0 at first", "told(0) = 0");
    }

    /** Of each call with a FRUIT: by the last of them, by the first beyond, by those below 0. */
    private static void fruitNumbers() {
        String[][] calls = {
            {"of(#, 0)", "FAR", "6"}, {"cut(#, true)", "NONE", "0"}, {"set(#, 1, 1)", "NONE", "0"}, {"row(#, 0, 1)", "NONE", "0"},
            {"clear(#, 0)", "NONE", "0"}, {"help(#, 0)", "NONE", "-5"}, {"see(#, 0)", "NONE", "1"}, {"can(#, 0)", "NONE", "10"},
            {"odds(#, 0, 0)", "NO", "0"}, {"plan(1, #)", "NONE", "1"}, {"plan(2, #)", "NONE", "1"}, {"plan(3, #)", "NONE", "1"},
            {"book(#, 0)", "NONE", "1"}, {"act(#, 0, 1)", "0", "6"}, {"taken(#, 0)", "NOTHING", "6"},
        };
        for (String[] call : calls) {
            boolean hasMinus1 = call[0].startsWith("see") || call[0].startsWith("book");
            edge("5 of six", SIX_TOLD + call[0].replace("#", "5") + " = " + call[2]);
            edge("6 of six", SIX_TOLD + call[0].replace("#", "6") + " = " + call[1]);
            edge("5 of five", "5 x fruit(TOLD, 0) " + call[0].replace("#", "5") + " = " + call[1]);
            edge("1 of one", "fruit(TOLD, 0) " + call[0].replace("#", "1") + " = " + call[1]);
            edge("0 of none", call[0].replace("#", "0") + " = " + call[1]);
            for (String no : new String[] {"-1", "-2", "MIN", "MAX", "32", "-10001"}) {
                if (!no.equals("-1") || !hasMinus1) {
                    edge("FRUIT " + no, SIX_TOLD + call[0].replace("#", no) + " = " + call[1]);
                }
            }
        }
        edge("ON of 5 of six", SIX_TOLD + "on(0, 15) = 0 on(0, 25) = 0");
        edge("ON of 6 of six", SIX_TOLD + "on(0, 16) = NONE on(0, 26) = NONE");
        edge("ON of 5 of five", "5 x fruit(TOLD, 0) on(0, 15) = NONE on(0, 25) = NONE");
        edge("ON of 0 of none", "on(0, 10) = NONE on(0, 20) = NONE");
    }

    private static void termsOfWalls() {
        wallTexts();
        wallSigns();
        wallNesting();
        wallClauses();
        wallLetters();
        wallJoining();
        wallOpenAtOnce();
        wallRipeAndSum();
    }

    private static void wallTexts() {
        part = "a WALL is read from THE TEXT (bytes, 100 at most); the end of THE TEXT, if it ends too early";
        edge("the hundredth is taken, no more", "99 x feed(32) feed(32) = 100 feed(32) = FULL count(6) = 100");
        String hundred = "sun 1 p=11" + "|p=10&p=11".repeat(9);
        edge("a WALL of 100", "wall '" + hundred + "' = 0 count(6) = 0");
        edge("a WALL of 99", "wall '" + hundred.substring(0, 99) + "' = 0");
        edge("98 end too early", "wall '" + hundred.substring(0, 98) + "' = -108");
        edge("100 end too early", "wall '" + hundred.replace("sun", "shade").substring(0, 100) + "' = -110");
        edge("the hundredth is the fault", "wall '" + hundred.substring(0, 99) + "#' = -109");
        edge("nothing ends too early", "wall() = -10");
        edge("byte 0 is the fault", "feed(0) wall() = -10");
        edge("byte 127 is the fault", "feed 'ripe 1' feed(127) wall() = -16");
        String[] texts = {"sun 12 !(p<34|k=5&v>6)", "shade 12 (h<34&!r=5|d>67)", "ripe 12", "ripe 1;shade 2 p=3;sun 4 k=5"};
        int[][] walls = {{22}, {25}, {6, 7}, {6, 18, 28}};
        for (int t = 0; t < texts.length; t++) {
            for (int end = 0; end <= texts[t].length(); end++) {
                boolean isWall = Arrays.binarySearch(walls[t], end) >= 0;
                String begun = texts[t].substring(0, end);
                edge("ends at " + end, "wall '" + begun + "' = " + (isWall ? 0 : -10 - end));
            }
            for (int at = 0; at < texts[t].length(); at++) {
                String spoilt = texts[t].substring(0, at) + "#" + texts[t].substring(at + 1);
                edge("the fault is at " + at, "wall '" + spoilt + "' = " + (-10 - at));
            }
        }
    }

    /** Of texts that are the begin of a WALL: with which signs, of all 128, one may go on. */
    private static void wallSigns() {
        part = "CLAUSES: sun n E; shade n E; ripe n (one blank ahead of each part behind the word; n 1 or 2 digits)";
        String digits = "0123456789";
        String one = "!(pkvhrd";
        goesOn("", "sr");
        goesOn("s", "uh");
        goesOn("su", "n");
        goesOn("sun", " ");
        goesOn("sun ", digits);
        goesOn("sun 1", digits + " ");
        goesOn("sun 12", " ");
        goesOn("sun 1 ", one);
        goesOn("sh", "a");
        goesOn("sha", "d");
        goesOn("shad", "e");
        goesOn("shade", " ");
        goesOn("shade ", digits);
        goesOn("shade 0", digits + " ");
        goesOn("shade 00", " ");
        goesOn("shade 1 ", one);
        goesOn("r", "i");
        goesOn("ri", "p");
        goesOn("rip", "e");
        goesOn("ripe", " ");
        goesOn("ripe ", digits);
        goesOn("ripe 1", digits + ";");
        goesOn("ripe 12", ";");
        goesOn("ripe 1;", "sr");
        part = "E: T or T|E. T: F or F&T. F: !F, (E), or a TEST: a letter, < or = or >, a number (1 or 2 digits)";
        for (char letter : "pkvhrd".toCharArray()) {
            goesOn("sun 1 " + letter, "<=>");
        }
        for (char relation : "<=>".toCharArray()) {
            goesOn("sun 1 p" + relation, digits);
            goesOn("sun 1 p" + relation + "1", digits + "&|;");
            goesOn("sun 1 p" + relation + "12", "&|;");
        }
        goesOn("sun 1 p=1&", one);
        goesOn("sun 1 p=1|", one);
        goesOn("sun 1 p=1&p=2|", one);
        goesOn("sun 1 !", one);
        goesOn("sun 1 (", one);
        goesOn("sun 1 !p=12", "&|;");
        goesOn("sun 1 (p=1", digits + "&|)");
        goesOn("sun 1 (p=12", "&|)");
        goesOn("sun 1 (p=12&", one);
        goesOn("sun 1 (p=12|", one);
        goesOn("sun 1 (p=12)", "&|;");
        goesOn("sun 1 ((p=12)", "&|)");
        goesOn("sun 1 !(p=12)", "&|;");
        goesOn("shade 1 p=12;", "sr");
    }

    private static void goesOn(String begun, String signs) {
        for (int sign = 0; sign < 128; sign++) {
            List<Call> run = calls("feed '" + begun + "'");
            run.add(new Call("feed", new long[] {sign}, begun.length() + 1L));
            // Where one may go on, a # behind it is the fault.
            run.addAll(calls("feed '#' wall() = " + (-10 - begun.length() - (signs.indexOf(sign) >= 0 ? 1 : 0))));
            edge("'" + begun + "' and sign " + sign, run);
        }
    }

    private static void wallNesting() {
        part = "a ( or ! within 4 others is none";
        goesOn("sun 1 (((", "!(pkvhrd");
        goesOn("sun 1 ((((", "pkvhrd");
        goesOn("sun 1 !!!", "!(pkvhrd");
        goesOn("sun 1 !!!!", "pkvhrd");
        goesOn("sun 1 !(!", "!(pkvhrd");
        goesOn("sun 1 !(!(", "pkvhrd");
        goesOn("sun 1 (!(!", "pkvhrd");
        goesOn("sun 1 ((((p=1|", "pkvhrd");
        goesOn("sun 1 ((((p=1&", "pkvhrd");
        goesOn("sun 1 (((!p=1&", "!(pkvhrd");
        goesOn("sun 1 (((!p=1|", "!(pkvhrd");
        goesOn("sun 1 ((((p=1)&", "!(pkvhrd");
        goesOn("sun 1 ((((p=1))))&", "!(pkvhrd");
        goesOn("sun 1 ((((p=1))))|(((", "!(pkvhrd");
        goesOn("sun 1 !!!!p=1;sun 1 !!!", "!(pkvhrd");
        edge("( within three others", "fruit(PEAR, 0) wall 'sun 1 ((((p=0))))' = 0 of(0, 10) = 6");
        edge("( within four others", "wall 'sun 1 (((((p=0)))))' = -20");
        edge("! within three others", "fruit(PEAR, 0) wall 'sun 1 !!!!p=0' = 0 of(0, 10) = 6");
        edge("! within four others", "wall 'sun 1 !!!!!p=0' = -20");
        edge("( within four !", "wall 'sun 1 !!!!(p=0)' = -20");
        edge("! within four (", "wall 'sun 1 ((((!p=0))))' = -20");
        edge("those beside it are not around it", "fruit(PEAR, 0) wall 'sun 1 !!!!p=0&!!!!p=0&((((p=0))))&((((p=0))))' = 0 of(0, 10) = 6");
    }

    private static void wallClauses() {
        part = "CLAUSES, 1 to 10, with ; between";
        String nine = "ripe 1;".repeat(9);
        edge("one", "wall 'ripe 2' = 0 told(1) = 2");
        edge("none", "wall '' = -10");
        edge("; alone", "wall ';' = -10");
        edge("; ahead", "wall ';ripe 1' = -10");
        edge("; behind", "wall 'ripe 1;' = -17");
        edge("; twice", "wall 'ripe 1;;ripe 1' = -17");
        edge("a blank behind ;", "wall 'ripe 1; ripe 1' = -17");
        edge("none between", "wall 'ripe 1ripe 1' = -16");
        edge("ten", "wall '" + nine + "ripe 9' = 0 told(1) = 9");
        edge("an eleventh", "wall '" + nine + "ripe 9;ripe 8' = -79 told(1) = 30");
        edge("; behind the tenth", "wall '" + nine + "ripe 9;' = -79");
        goesOn(nine + "ripe 1", "0123456789");
        goesOn(nine + "ripe 12", "");
        goesOn(nine + "sun 1 p=12", "&|");
        goesOn("ripe 1;".repeat(8) + "ripe 12", ";");
        edge("ten sun", "fruit(PEAR, 0) wall '" + "sun 9 p=0;".repeat(9) + "sun 9 p=0' = 0 of(0, 10) = 95");
        part = "the FAULT: the one that held holds; the newest WALL holds (6 at most)";
        edge("behind a FAULT", "wall 'ripe 7' = 0 wall 'ripe x' = -15 told(1) = 7 count(1) = 1 count(6) = 0");
        edge("behind a FAULT without one", "fruit(PEAR, 0) wall 'sun 9 p=0;ripe 3;' = -27 of(0, 10) = 5 told(1) = 30 count(1) = 0");
        edge("the newest", "fruit(PEAR, 0) wall 'sun 9 p=0;ripe 3' = 0 wall 'sun 2 p=0' = 1 of(0, 10) = 7 told(1) = 30");
        String five = "wall 'ripe 1' = 0 wall 'ripe 2' = 1 wall 'ripe 3' = 2 wall 'ripe 4' = 3 wall 'ripe 5' = 4 ";
        edge("the sixth", five + "wall 'ripe 6' = 5 told(1) = 6 count(1) = 6");
        edge("a seventh", five + "wall 'ripe 6' wall 'ripe 7' = FULL told(1) = 6 count(1) = 6 count(6) = 6");
        edge("a fault takes no room", five + "wall 'ripe' = -14 wall 'rip' = -13 wall 'ripe 6' = 5 told(1) = 6");
    }

    /** Each letter with each relation at a number below, at and above what it stands for. */
    private static void wallLetters() {
        part = "of a FRUIT and an HOUR p the number of the one, k its KIND, v its v, h the number of the other, r RIPE by 10 (cut), d DAY modulo 10";
        letter("p 0", "fruit(PEAR, 9)", 'p', 0, 0);
        letter("p 5", "5 x fruit(PEAR, 9) fruit(PEAR, 9)", 'p', 5, 5);
        letter("k 0", "fruit(LATE, 9) fruit(PEAR, 9)", 'k', 1, 0);
        letter("k 2", "fruit(PEAR, 9) fruit(LATE, 9)", 'k', 1, 2);
        letter("v 0", "fruit(PEAR, 0)", 'v', 0, 0);
        letter("v 9", "fruit(PEAR, 0) fruit(PEAR, 9)", 'v', 1, 9);
        letter("r of RIPE 0", "fruit(PEAR, 5)", 'r', 0, 0);
        letter("r of RIPE 9", "fruit(PEAR, 5) set(0, 1, 9)", 'r', 0, 0);
        letter("r of RIPE 10", "fruit(PEAR, 5) set(0, 1, 10)", 'r', 0, 1);
        letter("r of RIPE 19", "fruit(PEAR, 5) set(0, 1, 19)", 'r', 0, 1);
        letter("r of RIPE 20", "fruit(PEAR, 5) fruit(PEAR, 5) set(1, 1, 20)", 'r', 1, 2);
        letter("r of RIPE 989", "fruit(PEAR, 5) set(0, 1, 989)", 'r', 0, 98);
        letter("d of DAY 0", "fruit(PEAR, 5)", 'd', 0, 0);
        letter("d of DAY 9", "fruit(PEAR, 5) pass(9) set(0, 1, 0)", 'd', 0, 9);
        letter("d of DAY 10", "fruit(PEAR, 5) pass(10) set(0, 1, 0)", 'd', 0, 0);
        letter("d of DAY 11", "fruit(PEAR, 5) pass(11) set(0, 1, 0)", 'd', 0, 1);
        edge("r of RIPE 999 is 99", "fruit(PEAR, 5) set(0, 1, 999) wall 'sun 9 r=99' of(0, 10) = 14 wall 'sun 9 r>99' of(0, 10) = 5");
        edge("r of RIPE 1000 is above 99", "fruit(PEAR, 5) set(0, 1, 1000) wall 'sun 9 r=99' of(0, 10) = 5 wall 'sun 9 r>99' of(0, 10) = 14");
        edge("r of RIPE 9999 is no 99", "fruit(PEAR, 5) set(0, 1, 9999) wall 'sun 9 r=99' of(0, 10) = 5 wall 'sun 9 r>99' of(0, 10) = 14");
        int[] ends = {0, 1, 10, 11, 12, 13, 99};
        for (int n : ends) {
            int below = n > 11 ? 4095 : (1 << n) - 1;
            int at = n > 11 ? 0 : 1 << n;
            String lone = "fruit(PEAR, 0) wall 'shade 5 ";
            edge("h<" + n, lone + "h<" + n + "' of(0, 5) = " + (4095 - below));
            edge("h=" + n, lone + "h=" + n + "' of(0, 5) = " + (4095 - at));
            edge("h>" + n, lone + "h>" + n + "' of(0, 5) = " + (below + at));
        }
        part = "a number (1 or 2 digits)";
        edge("0 and 00", "fruit(PEAR, 0) wall 'sun 0 p=0;sun 00 p=00;ripe 00' = 0 of(0, 10) = 5 told(1) = 0");
        edge("1 and 01", "fruit(PEAR, 1) wall 'sun 01 v=01;ripe 01' = 0 of(0, 10) = 6 told(1) = 1");
        edge("99", "fruit(PEAR, 0) wall 'sun 99 p<99;ripe 99' = 0 of(0, 10) = 104 told(1) = 99");
        edge("the tens come first", "fruit(PEAR, 0) wall 'sun 27 p=0' = 0 of(0, 10) = 32");
        edge("three digits of sun", "wall 'sun 100 p=0' = -16");
        edge("three digits of shade", "wall 'shade 100 p=0' = -18");
        edge("three digits of ripe", "wall 'ripe 100' = -17");
        edge("three digits of a TEST", "wall 'sun 1 p=100' = -20");
    }

    private static void letter(String what, String setup, char letter, int fruit, int value) {
        for (int n = Math.max(0, value - 1); n <= value + 1; n++) {
            for (char relation : "<=>".toCharArray()) {
                boolean holds = relation == '<' ? value < n : relation == '=' ? value == n : value > n;
                edge(what + relation + n, setup + " wall 'sun 9 " + letter + relation + n + "' = 0 of(" + fruit + ", 10) = " + (holds ? 14 : 5)
                    + " of(" + fruit + ", 15) = " + (holds ? 14 : 5));
            }
        }
    }

    private static void wallJoining() {
        part = "E: T or T|E. T: F or F&T. F: !F, (E), or a TEST";
        String[][] holds = {
            {"p=0", "1"}, {"p=1", "0"}, {"!p=0", "0"}, {"!p=1", "1"}, {"!!p=0", "1"}, {"(p=0)", "1"}, {"(p=1)", "0"},
            {"p=0|p=0", "1"}, {"p=0|p=1", "1"}, {"p=1|p=0", "1"}, {"p=1|p=1", "0"},
            {"p=0&p=0", "1"}, {"p=0&p=1", "0"}, {"p=1&p=0", "0"}, {"p=1&p=1", "0"},
            {"p=0|p=1&p=1", "1"}, {"p=1&p=1|p=0", "1"}, {"(p=0|p=1)&p=1", "0"}, {"p=1&(p=1|p=0)", "0"},
            {"!p=0|p=0", "1"}, {"!(p=0|p=0)", "0"}, {"!p=1&p=1", "0"}, {"!(p=1&p=1)", "1"}, {"!p=0&p=1", "0"}, {"!(p=0&p=1)", "1"},
            {"p=1|p=1|p=0", "1"}, {"p=0&p=0&p=1", "0"}, {"p=0&p=1|p=0&p=0", "1"}, {"p=1|p=0&!p=1", "1"},
        };
        for (String[] h : holds) {
            edge("behind five CLAUSES: " + h[0], "fruit(PEAR, 0) wall '" + "sun 1 p=0;".repeat(5) + "sun 1 " + h[0] + "' = 0 "
            + "of(0, 10) = " + (h[1].equals("1") ? 11 : 10));
            edge(h[0], "fruit(PEAR, 0) wall 'sun 1 " + h[0] + "' = 0 of(0, 10) = " + (h[1].equals("1") ? 6 : 5));
        }
    }

    /** As much as can be open at once: at each of the five levels a T and an F ahead of what is read. */
    private static void wallOpenAtOnce() {
        part = "E: T or T|E. T: F or F&T, within four (";
        String deep = "p=1|p=0&(p=1|p=0&(p=1|p=0&(p=1|p=0&(p=1|p=0&h=#))))";
        edge("it holds at the innermost", "fruit(PEAR, 0) wall 'shade 5 " + deep.replace("#", "3") + "' = 0 of(0, 5) = 4087");
        edge("it holds at none", "fruit(PEAR, 0) wall 'shade 5 " + deep.replace("#", "12") + "' = 0 of(0, 5) = 4095");
        String other = deep.replace("p=1|p=0&(", "p=0|p=1&(").replace("#", "12");
        edge("it holds, though the innermost does not", "fruit(PEAR, 0) wall 'shade 5 " + other + "' = 0 of(0, 5) = 0");
        edge("behind others", "fruit(PEAR, 0) wall '" + "sun 1 p=0;".repeat(4) + "sun 1 " + deep.replace("#", "3") + "' = 0 of(0, 10) = 9 of(0, 13) = 10");
    }

    private static void wallRipeAndSum() {
        part = "RIPE ENOUGH (30 without): the last n of ripe";
        edge("30 without a WALL", "fruit(PEAR, 0) told(1) = 30 set(0, 1, 29) told(4) = 0 set(0, 1, 30) told(4) = 1");
        edge("30 without ripe", "fruit(PEAR, 0) wall 'sun 1 p=0' told(1) = 30 set(0, 1, 29) told(4) = 0 set(0, 1, 30) told(4) = 1");
        edge("the last of two", "wall 'ripe 50;ripe 20' told(1) = 20");
        edge("the last, behind others", "wall 'ripe 50;sun 1 p=0;ripe 60;shade 1 p=0' told(1) = 60");
        edge("0", "fruit(PEAR, 0) wall 'ripe 0' told(1) = 0 told(4) = 1 of(0, 7) = 0 on(0, 0) = 1");
        edge("99", "fruit(PEAR, 0) wall 'ripe 99' set(0, 1, 98) told(4) = 0 set(0, 1, 99) told(4) = 1");
        part = "SUM of a FRUIT and an HOUR: 5, and the n of all sun whose E holds, less those of all shade, together (may be below 0)";
        edge("5 without a WALL", "fruit(PEAR, 0) of(0, 10) = 5 of(0, 21) = 5");
        edge("5, if none holds", "fruit(PEAR, 0) wall 'sun 9 p=1;shade 9 p=1' of(0, 10) = 5");
        edge("all sun", "fruit(PEAR, 0) wall 'sun 3 p=0;sun 3 p=0;sun 4 h=0' of(0, 10) = 15 of(0, 11) = 11");
        edge("all shade", "fruit(PEAR, 0) wall 'shade 1 p=0;shade 1 p=0;shade 2 h=0' of(0, 10) = 1 of(0, 11) = 3");
        edge("together", "fruit(PEAR, 0) wall 'shade 9 p=0;sun 7 p=0' of(0, 10) = 3");
        edge("0", "fruit(PEAR, 0) wall 'shade 5 p=0' of(0, 10) = 0");
        edge("below 0", "fruit(PEAR, 0) wall 'shade 6 p=0' of(0, 10) = -1");
        edge("most that fits", "fruit(PEAR, 0) wall '" + "sun 99 p=0;".repeat(8) + "sun 99 p=0' = 0 of(0, 10) = 896");
        edge("least that fits", "fruit(PEAR, 0) wall '" + "shade 99 p=0;".repeat(6) + "shade 99 p=0' = 0 of(0, 10) = -688");
        edge("of each its own", "2 x fruit(PEAR, 0) wall 'sun 3 p=1&h=11;shade 2 p=0&h=0' of(0, 10) = 3 of(0, 21) = 5 of(1, 10) = 5 of(1, 21) = 8");
    }

    private static void termsOfPulls() {
        part = "PULL of a FRUIT at an HOUR (may be below 0)";
        pulls("PEAR: SUM", "fruit(PEAR, 4)", 0, 5, 5, 5, 5, 5, 5, 5, 5, 5, 5, 5, 5);
        pulls("EARLY: SUM, and 6 less HOUR, if that is above 0", "fruit(EARLY, 4)", 0, 11, 10, 9, 8, 7, 6, 5, 5, 5, 5, 5, 5);
        pulls("LATE: SUM, and HOUR less 5, if that is above 0", "fruit(LATE, 4)", 0, 5, 5, 5, 5, 5, 5, 6, 7, 8, 9, 10, 11);
        pulls("BELL: whole at multiples of 3, v 0", "fruit(BELL, 0)", 0, 5, 2, 2, 5, 2, 2, 5, 2, 2, 5, 2, 2);
        pulls("BELL, v 1", "fruit(BELL, 1)", 0, 2, 2, 5, 2, 2, 5, 2, 2, 5, 2, 2, 5);
        pulls("BELL, v 2", "fruit(BELL, 2)", 0, 2, 5, 2, 2, 5, 2, 2, 5, 2, 2, 5, 2);
        pulls("BELL, v 9", "fruit(BELL, 9)", 0, 5, 2, 2, 5, 2, 2, 5, 2, 2, 5, 2, 2);
        pulls("BELL: the half of -5 is cut toward 0", "fruit(BELL, 0) wall 'shade 10 p=0'", 0, -5, -2, -2, -5, -2, -2, -5, -2, -2, -5, -2, -2);
        pulls("BELL: the half of -1 is 0", "fruit(BELL, 0) wall 'shade 6 p=0'", 0, -1, 0, 0, -1, 0, 0, -1, 0, 0, -1, 0, 0);
        pulls("BELL: the half of 1 is 0", "fruit(BELL, 0) wall 'shade 4 p=0'", 0, 1, 0, 0, 1, 0, 0, 1, 0, 0, 1, 0, 0);
        pulls("BELL: the half of 4 is 2", "fruit(BELL, 0) wall 'shade 1 p=0'", 0, 4, 2, 2, 4, 2, 2, 4, 2, 2, 4, 2, 2);
        pulls("TWIN: none is ahead of it", "fruit(TWIN, 4) fruit(PEAR, 0)", 0, 11, 10, 9, 8, 7, 6, 5, 5, 5, 5, 5, 5);
        pulls("TWIN: the one ahead is not CUT", "fruit(PEAR, 0) fruit(TWIN, 4)", 1, 10, 9, 8, 7, 6, 5, 4, 4, 4, 4, 4, 4);
        pulls("TWIN: the one ahead is CUT", "fruit(PEAR, 0) fruit(TWIN, 4) cut(0, true)", 1, 11, 10, 9, 8, 7, 6, 5, 5, 5, 5, 5, 5);
        pulls("TWIN: only the next ahead counts", "3 x fruit(PEAR, 0) fruit(TWIN, 4) fruit(PEAR, 0) "
            + "cut(2, true)", 3, 11, 10, 9, 8, 7, 6, 5, 5, 5, 5, 5, 5);
        pulls("TWIN: others CUT do not count", "3 x fruit(PEAR, 0) fruit(TWIN, 4) fruit(PEAR, 0) cut(0, true) cut(1, true) cut(4, true)", 3,
            10, 9, 8, 7, 6, 5, 4, 4, 4, 4, 4, 4);
        pulls("TWIN: being CUT itself does not count", "fruit(PEAR, 0) fruit(TWIN, 4) cut(1, true)", 1, 10, 9, 8, 7, 6, 5, 4, 4, 4, 4, 4, 4);
        pulls("KEPT: as LATE on DAY 0", "fruit(KEPT, 4)", 0, 5, 5, 5, 5, 5, 5, 6, 7, 8, 9, 10, 11);
        pulls("KEPT: 0 on DAY 1", "fruit(KEPT, 4) pass(1)", 0, 0, 0, 0, 0, 0, 0, 0, 0, 0, 0, 0, 0);
        pulls("KEPT: as LATE on DAY 2", "fruit(KEPT, 4) pass(2)", 0, 5, 5, 5, 5, 5, 5, 6, 7, 8, 9, 10, 11);
        pulls("KEPT: 0, not below, on DAY 1", "fruit(KEPT, 4) wall 'shade 9 p=0' pass(1)", 0, 0, 0, 0, 0, 0, 0, 0, 0, 0, 0, 0, 0);
        pulls("KEPT: below 0 on DAY 0", "fruit(KEPT, 4) wall 'shade 9 p=0'", 0, -4, -4, -4, -4, -4, -4, -3, -2, -1, 0, 1, 2);
        pulls("TOLD: ROW 0 at first", "fruit(TOLD, 0)", 0, 5, 2, 2, 5, 2, 2, 5, 2, 2, 5, 2, 2);
        pulls("TOLD: ROW at HOUR modulo 4, whole", "fruit(TOLD, 0) row(0, 0, 9) row(0, 1, 1) row(0, 2, 3) row(0, 3, 6)", 0,
            14, 3, 5, 11, 11, 3, 8, 8, 11, 6, 5, 8);
        pulls("TOLD: below 0", "fruit(TOLD, 1) row(0, 3, 2) wall 'shade 10 p=0'", 0, -2, -2, -5, 0, -2, -5, -2, 0, -5, -2, -2, -3);
        pulls("of one that is CUT", "fruit(EARLY, 4) cut(0, true)", 0, 11, 10, 9, 8, 7, 6, 5, 5, 5, 5, 5, 5);

        part = "an HOUR is that FRUIT's, not CUT, whose PULL is greatest, if that is above 0 (of several the first's)";
        edge("1 is above 0", "fruit(PEAR, 0) wall 'shade 4 p=0' of(0, 10) = 1 told(10) = 0 of(0, 5) = 4095");
        edge("0 is not", "fruit(PEAR, 0) wall 'shade 5 p=0' of(0, 10) = 0 told(10) = -5 of(0, 5) = 0");
        edge("-1 is not", "fruit(PEAR, 0) wall 'shade 6 p=0' of(0, 10) = -1 told(10) = -5 of(0, 5) = 0");
        edge("the first's of two", "2 x fruit(PEAR, 0) told(10) = 0 of(0, 5) = 4095 of(1, 5) = 0");
        edge("the first's of six", "6 x fruit(PEAR, 0) told(21) = 0 of(0, 5) = 4095 of(5, 5) = 0");
        edge("one more is greater", "2 x fruit(PEAR, 0) wall 'sun 1 p=1' told(10) = 1 of(0, 5) = 0 of(1, 5) = 4095");
        edge("the last's of six", "6 x fruit(PEAR, 0) wall 'sun 1 p=5' told(10) = 5 of(5, 5) = 4095");
        edge("the greatest in the middle", "3 x fruit(PEAR, 0) wall 'sun 2 p=1;sun 1 p=2' told(10) = 1 of(1, 5) = 4095");
        edge("of several greatest behind a less one", "3 x fruit(PEAR, 0) wall 'sun 1 p>0' told(10) = 1 of(1, 5) = 4095 of(2, 5) = 0");
        edge("not a CUT one's", "2 x fruit(PEAR, 0) wall 'sun 9 p=0' cut(0, true) told(10) = 1 of(0, 5) = 0 of(1, 5) = 4095");
        edge("again, when it is not CUT", "2 x fruit(PEAR, 0) cut(0, true) cut(0, false) = 1 told(10) = 0 of(0, 5) = 4095");
        edge("nobody's, if all are CUT", "6 x fruit(PEAR, 0) cut(0, true) cut(1, true) cut(2, true) cut(3, true) cut(4, true) cut(5, true) "
            + "told(10) = -5 told(21) = -5 of(0, 5) = 0 told(2) = 63");
        edge("nobody's, if there is none", "told(10) = -5 told(21) = -5");
        edge("HOUR by HOUR", "fruit(EARLY, 0) fruit(LATE, 0) wall 'shade 20 h=3|h=9' told(12) = 0 told(13) = -5 told(15) = 0 told(16) = 1 "
            + "told(19) = -5 told(21) = 1 of(0, 5) = 55 of(1, 5) = 3520");
    }

    private static void pulls(String what, String setup, int fruit, int... pulls) {
        StringBuilder run = new StringBuilder(setup);
        for (int h = 0; h < 12; h++) {
            run.append(" of(").append(fruit).append(", ").append(10 + h).append(") = ").append(pulls[h]);
        }
        edge(what, run.toString());
    }

    private static void termsOfDays() {
        part = "a DAY goes, by how all is ahead of it";
        edge("HAD its HOURS, too", "fruit(EARLY, 0) fruit(LATE, 0) set(0, 0, 2048) pass(1) of(0, 3) = 2111 of(1, 3) = 4032");
        edge("HAD none more", "2 x fruit(PEAR, 0) pass(1) of(0, 3) = 4095 of(1, 3) = 0 of(1, 4) = 0");
        edge("what was HAD stays", "fruit(PEAR, 0) wall 'shade 5 d=0&h>2;shade 5 d=1&h<6' pass(1) of(0, 3) = 7 pass(1) of(0, 3) = 4039 of(0, 4) = 9");
        edge("RIPE is as many more", "fruit(EARLY, 0) fruit(LATE, 0) pass(1) of(0, 4) = 6 of(1, 4) = 6 told(3) = 12");
        edge("HOURS had before count again", "fruit(PEAR, 0) pass(2) of(0, 4) = 24");
        edge("DAY is 1 more", "pass(1) = 1 told(0) = 1 pass(1) = 2 told(0) = 2");
        edge("RIPE is as it was ahead of the DAY", "fruit(PEAR, 0) set(0, 1, 9) wall 'shade 9 r>0' pass(1) of(0, 4) = 21 pass(1) of(0, 4) = 21");
        edge("DAY is as it was ahead of the DAY", "fruit(PEAR, 0) wall 'shade 9 d=1' pass(1) of(0, 4) = 12 pass(1) of(0, 4) = 12 pass(1) "
            + "of(0, 4) = 24");
        edge("each DAY anew", "fruit(PEAR, 0) wall 'shade 9 r>0' pass(3) = 3 of(0, 4) = 12");
        edge("a KEPT one's DAYS", "fruit(KEPT, 0) pass(1) of(0, 4) = 12 pass(1) of(0, 4) = 12 pass(1) of(0, 4) = 24");
        edge("9999 at most", "fruit(PEAR, 0) set(0, 1, 9999) pass(1) of(0, 4) = 9999 of(0, 3) = 4095");
        edge("9988 and 12", "fruit(PEAR, 0) set(0, 1, 9988) pass(1) of(0, 4) = 9999");
        edge("9987 and 12", "fruit(PEAR, 0) set(0, 1, 9987) pass(1) of(0, 4) = 9999");
        edge("9986 and 12", "fruit(PEAR, 0) set(0, 1, 9986) pass(1) of(0, 4) = 9998");
        edge("9998 and 12", "fruit(PEAR, 0) set(0, 1, 9998) pass(1) of(0, 4) = 9999");
        edge("a CUT one stays", "fruit(PEAR, 0) set(0, 1, 7) cut(0, true) pass(60) of(0, 4) = 7 of(0, 3) = 0");

        part = "what is asked goes on from how all is (DAYS, RIPE beyond 9999, too)";
        edge("ON: RIPE beyond", "fruit(PEAR, 0) set(0, 1, 9999) on(0, 20) = 9999 on(1, 20) = 10011 on(30, 20) = 10359 of(0, 4) = 9999");
        edge("ON: RIPE comes to 9999 and beyond", "fruit(PEAR, 0) set(0, 1, 9987) on(1, 20) = 9999 on(2, 20) = 10011");
        edge("ENDS: RIPE beyond", "fruit(PEAR, 0) set(0, 1, 9999) plan(0, 0) ends(0) = 10011 plan(0, 0) ends(0) = 10023");
        edge("ON: DAYS beyond", TO_9999 + "fruit(KEPT, 0) on(1, 20) = 0 on(2, 20) = 12 on(3, 20) = 12 on(4, 20) = 24 on(30, 20) = 180");
        edge("ON: d beyond", TO_9999 + "fruit(PEAR, 0) wall 'shade 5 d>0' on(1, 20) = 0 on(2, 20) = 12 on(11, 20) = 12 on(12, 20) = 24");
        edge("WHEN: DAYS beyond", TO_9999 + "fruit(KEPT, 0) wall 'ripe 12' of(0, 7) = 2");
        edge("ENDS: DAYS beyond", TO_9999 + "fruit(KEPT, 0) plan(0, 0) ends(0) = 0 plan(0, 0) ends(0) = 12");
        edge("ON WHICH: DAYS beyond", TO_9999 + "fruit(KEPT, 0) see(0, 4095) which(0) = 5 which(1) = 1");

        part = "ON n DAYS (0 .. 30): HAD of a FRUIT; RIPE of it; how many, not CUT, are RIPE ENOUGH";
        edge("0 DAYS are now", "fruit(PEAR, 0) set(0, 0, 3) set(0, 1, 30) on(0, 0) = 1 on(0, 10) = 3 on(0, 20) = 30");
        edge("30 DAYS", "fruit(PEAR, 0) on(30, 20) = 360 on(30, 10) = 4095 on(30, 0) = 1");
        edge("31 DAYS", "fruit(PEAR, 0) on(31, 0) = BAD on(31, 10) = BAD on(31, 20) = BAD");
        edge("-1 DAYS", "fruit(PEAR, 0) on(-1, 0) = BAD on(-1, 10) = BAD on(-1, 20) = BAD");
        edge("HAD grows", "fruit(PEAR, 0) wall 'shade 5 d=0&h>2;shade 5 d=1&h<6' on(1, 10) = 7 on(2, 10) = 4039");
        edge("just RIPE ENOUGH", "fruit(PEAR, 0) wall 'ripe 24' on(1, 0) = 0 on(2, 0) = 1");
        edge("a CUT one is not counted", "2 x fruit(PEAR, 0) set(0, 1, 99) cut(0, true) on(0, 0) = 0 on(3, 0) = 1 on(3, 20) = 99");
        edge("no FRUIT", "on(0, 0) = 0 on(30, 0) = 0");

        part = "WHEN of a FRUIT: the fewest DAYS (0 .. 30) behind which it is RIPE ENOUGH (-5: not by then)";
        String hourADay = "fruit(PEAR, 0) wall 'shade 5 h>0;ripe 30' ";
        edge("0", hourADay + "set(0, 1, 30) of(0, 7) = 0");
        edge("0, by far", hourADay + "set(0, 1, 9999) of(0, 7) = 0");
        edge("1", hourADay + "set(0, 1, 29) of(0, 7) = 1");
        edge("30", hourADay + "of(0, 7) = 30");
        edge("31 is too late", "fruit(PEAR, 0) wall 'shade 5 h>0;ripe 31' of(0, 7) = -5");
        edge("never", "2 x fruit(PEAR, 0) of(1, 7) = -5");
        edge("CUT, not RIPE", "fruit(PEAR, 0) cut(0, true) of(0, 7) = -5");
        edge("CUT, RIPE ENOUGH", "fruit(PEAR, 0) cut(0, true) set(0, 1, 30) of(0, 7) = 0");
        edge("the fewest, though the last hours are more than needed", "fruit(PEAR, 0) wall 'ripe 25' of(0, 7) = 3");
    }

    // ---- part 2 of the terms

    private static void termsOfCutting() {
        part = "CLEAR of a FRUIT and HOURS";
        edge("no HOURS", "2 x fruit(PEAR, 0) clear(1, 0) = 0");
        edge("its own", "fruit(EARLY, 0) fruit(LATE, 0) clear(0, 63) = 0 clear(1, 4032) = 0");
        edge("all others", "6 x fruit(PEAR, 0) clear(5, 1) = 31 clear(5, 4095) = 31");
        edge("all others of the first", "6 x fruit(PEAR, 0) wall 'shade 1 p=0' clear(0, 2048) = 62");
        edge("not those behind that have none", "6 x fruit(PEAR, 0) clear(2, 4095) = 3");
        edge("these HOURS, all", "fruit(PEAR, 0) fruit(EARLY, 0) fruit(LATE, 0) clear(0, 1) = 2 clear(0, 2048) = 4 clear(0, 2049) = 6");
        edge("among its own: it may have more", "2 x fruit(PEAR, 0) clear(1, 8) = 1");
        edge("the fewest, not the least as bits", "2 x fruit(PEAR, 0) fruit(PEAR, 0) fruit(TWIN, 0) wall 'shade 1 p<2;shade 5 p=2' "
            + "clear(3, 2048) = 4");
        edge("of several the least as bits", "2 x fruit(PEAR, 0) fruit(TWIN, 0) wall 'shade 1 p=0;shade 5 p=1' clear(2, 2048) = 1");
        edge("CUT, too: those that are CUT are not in it", "3 x fruit(PEAR, 0) cut(0, true) clear(2, 1) = 2 clear(1, 1) = 0");
        edge("none: its PULL is 0", "2 x fruit(PEAR, 0) wall 'shade 5 p=1&h=4' clear(1, 16) = -5 clear(1, 48) = -5 clear(1, 32) = 1");
        edge("none: its PULL is below 0", "fruit(PEAR, 0) wall 'shade 6 h=4' clear(0, 16) = -5");
        edge("it is CUT itself", "2 x fruit(PEAR, 0) cut(1, true) clear(1, 1) = -5 clear(1, 0) = -5 clear(1, 4095) = -5");
        edge("on this DAY", "fruit(KEPT, 0) fruit(PEAR, 0) clear(1, 1) = 1 pass(1) clear(1, 1) = 0");
        edge("a TWIN behind a CUT one takes it", "fruit(PEAR, 0) fruit(TWIN, 0) fruit(EARLY, 0) wall 'sun 6 p=0' clear(2, 1) = 3");

        part = "HELP of a FRUIT";
        String three = "3 x fruit(PEAR, 0) wall 'sun 1 p=1&h<2;sun 1 p=2&h>8' ";
        edge("most HOURS more", three + "help(0, 0) = 2 help(0, 1) = 3");
        edge("of several the first", "3 x fruit(PEAR, 0) wall 'sun 1 p=1&h<2;sun 1 p=2&h>9' help(0, 0) = 1 help(0, 1) = 2");
        edge("of several the first, behind a less one", "4 x fruit(PEAR, 0) wall 'sun 1 p=1&h=0;sun 1 p=2&h>9;sun 1 p=3&h<9&h>6' help(0, 0) = 2 "
            + "help(0, 1) = 2");
        edge("one HOUR more", "2 x fruit(PEAR, 0) wall 'sun 1 p=1&h=7' help(0, 0) = 1 help(0, 1) = 1");
        edge("twelve more", "2 x fruit(PEAR, 0) help(1, 0) = 0 help(1, 1) = 12");
        edge("none by whose it has more", "3 x fruit(PEAR, 0) help(0, 0) = -5 help(0, 1) = -5 help(2, 0) = -5 help(2, 1) = -5");
        edge("it is CUT", "2 x fruit(PEAR, 0) cut(1, true) help(1, 0) = -5 help(1, 1) = -5");
        edge("it is CUT, and would have more", "3 x fruit(PEAR, 0) cut(2, true) cut(1, true) help(2, 0) = -5");
        edge("no other", "fruit(PEAR, 0) help(0, 0) = -5 help(0, 1) = -5");
        edge("the last helps the first", "6 x fruit(PEAR, 0) wall 'sun 1 p=5' help(0, 0) = 5 help(0, 1) = 12");
        edge("a CUT one does not help", three + "cut(2, true) help(0, 0) = 1 help(0, 1) = 2");
        edge("the CUT of one ahead of a TWIN", "fruit(PEAR, 0) fruit(TWIN, 0) fruit(PEAR, 0) help(1, 0) = 0 help(1, 1) = 7");
        edge("on this DAY", "fruit(KEPT, 0) fruit(PEAR, 0) help(1, 0) = 0 pass(1) help(1, 0) = -5");
        String lost = "fruit(PEAR, 0) fruit(TWIN, 0) 2 x fruit(PEAR, 0) wall 'sun 3 p=0&h>#;sun 2 p=2&h>#;shade 5 p=0&!h>#;sun 1 p=3&h<6' ";
        edge("as many are lost as won", lost.replace("#", "8") + "of(2, 5) = 448 help(2, 0) = -5 help(2, 1) = -5");
        edge("more are won than lost", lost.replace("#", "7") + "of(2, 5) = 192 help(2, 0) = 0 help(2, 1) = 2");

        part = "SOLE of a FRUIT: which HOURS it has on this DAY, if all others are CUT (0, if it is CUT)";
        edge("all", "6 x fruit(PEAR, 0) of(5, 6) = 4095 of(5, 5) = 0");
        edge("alone", "fruit(PEAR, 0) of(0, 6) = 4095");
        edge("those with a PULL above 0", "2 x fruit(PEAR, 0) wall 'shade 5 h=0;shade 4 h=1;shade 6 h=2' of(1, 6) = 4090");
        edge("none", "2 x fruit(PEAR, 0) wall 'shade 5 p=1' of(1, 6) = 0");
        edge("it is CUT", "fruit(PEAR, 0) cut(0, true) of(0, 6) = 0");
        edge("others that are CUT", "2 x fruit(PEAR, 0) cut(0, true) of(1, 6) = 4095");
        edge("a TWIN's one ahead is CUT then", "fruit(PEAR, 0) fruit(TWIN, 0) wall 'shade 5 p=1&h<11;shade 4 p=1&h=11' of(1, 21) = 0 "
            + "of(1, 6) = 2111");
        edge("on this DAY", "fruit(PEAR, 0) fruit(KEPT, 0) of(1, 6) = 4095 pass(1) of(1, 6) = 0");
    }

    /**
     * What is asked goes on from all that there is: of two states that are told apart by one thing alone, FRUIT 0
     * has all HOURS in the one, and none, even if it is alone, in the other.
     */
    private static void allThatCounts() {
        String walls = ";shade 1 p=1;ripe 25' ";
        String two = "fruit(PEAR, 5) fruit(PEAR, 0) ";
        counts("v", "fruit(PEAR, 5) fruit(PEAR, 0) wall 'shade 9 p=0&v<5" + walls,
            "fruit(PEAR, 4) fruit(PEAR, 0) wall 'shade 9 p=0&v<5" + walls, 0, 3, -5, -5);
        counts("KIND", "fruit(PEAR, 0) fruit(PEAR, 0) wall 'shade 19 k=2" + walls,
            "fruit(LATE, 0) fruit(PEAR, 0) wall 'shade 19 k=2" + walls, 0, 3, -5, -5);
        counts("RIPE", two + "set(0, 1, 10) wall 'shade 9 p=0&r<1" + walls,
            two + "set(0, 1, 10) set(0, 1, 0) wall 'shade 9 p=0&r<1" + walls, 10, 2, -5, -5);
        String told = "fruit(TOLD, 0) fruit(PEAR, 0) row(0, 0, 9) row(0, 1, 9) row(0, 2, 9) row(0, 3, 9) wall 'shade 9 p=0" + walls;
        counts("ROW", told, told + "row(0, 0, 0) row(0, 1, 0) row(0, 2, 0) row(0, 3, 0) ", 0, 3, -5, -5);
        counts("DAY", two + "wall 'shade 9 p=0&d<1" + walls + "pass(1) set(1, 1, 0) ", two + "wall 'shade 9 p=0&d<1" + walls, 0, 3, 4, 1);
        String sun = "wall 'shade 1 p=1;ripe 25' ";
        String shade = "wall 'shade 9 p=0" + walls;
        counts("the WALL", two + sun, two + shade, 0, 3, -5, -5);
        counts("the newest WALL", two + shade + sun, two + sun + shade, 0, 3, -5, -5);
        counts("the WALL of THE IMAGE", two + sun + "image() " + shade + "undo() ", two + shade + "image() " + sun + "undo() ", 0, 3, -5, -5);
        counts("CUT", two + sun, two + sun + "cut(0, true) ", 0, 3, -5, -5);
        counts("CUT in THE IMAGE", two + sun + "image() cut(0, true) undo() ",
            two + sun + "cut(0, true) image() cut(0, false) undo() ", 0, 3, -5, -5);
        counts("one in the place of another", "image() fruit(PEAR, 4) undo() fruit(PEAR, 5) fruit(PEAR, 0) wall 'shade 9 p=0&v<5" + walls,
            "image() fruit(PEAR, 5) undo() fruit(PEAR, 4) fruit(PEAR, 0) wall 'shade 9 p=0&v<5" + walls, 0, 3, -5, -5);
    }

    private static void counts(String what, String has, String hasNot, int ripe, int whenHas, int whenNot, int whichNot) {
        part = "what is asked goes on from how all is";
        String asked = "of(0, 5) = %d of(0, 6) = %d of(0, 7) = %d told(10) = %d on(1, 10) = %d clear(0, 1) = %d help(1, 0) = %d help(1, 1) = %d "
            + "odds(0, 0, 0) = %d see(0, 4095) can(1, 0) = %d can(1, 1) = %d which(1) = %d plan(1, 1) plan(0, 0) ends(0) = %d of(0, 6) = %d";
        edge(what + ", it has the HOURS", has + String.format(asked, 4095, 4095, whenHas, 0, 4095, 0, 0, 12, 1, 10, 0, 0, ripe + 12, 4095));
        edge(what + ", it has not", hasNot + String.format(asked, 0, 0, whenNot, 1, 0, -5, -5, -5, 0, 0, -5, whichNot, 0, 0));
    }

    private static void termsOfSending() {
        part = "SENT";
        edge("no WANT", "fruit(PEAR, 0) sent(-1) = 0 sent(0) = NONE");
        edge("no FRUIT", "want(0) sent(-1) = 0 sent(0) = -5");
        edge("no HOURS are among none", "fruit(PEAR, 0) want(0) sent(-1) = 1 sent(0) = 0");
        edge("all HOURS", "fruit(PEAR, 0) set(0, 0, 4095) want(4095) sent(-1) = 1 sent(0) = 0");
        edge("all but one", "fruit(PEAR, 0) set(0, 0, 4094) want(4095) sent(-1) = 0 sent(0) = -5");
        edge("all but the last", "fruit(PEAR, 0) set(0, 0, 2047) want(2048) sent(-1) = 0 sent(0) = -5");
        edge("what it HAD, not what it has", "fruit(PEAR, 0) want(1) sent(0) = -5 pass(1) sent(0) = 0");
        edge("it HAD more", "fruit(PEAR, 0) set(0, 0, 7) want(2) sent(0) = 0");
        edge("not a CUT one", "2 x fruit(PEAR, 0) cut(0, true) want(0) sent(0) = 1 cut(1, true) sent(0) = -5 sent(-1) = 0");
        edge("no FRUIT twice", "fruit(PEAR, 0) 2 x want(0) sent(-1) = 1 sent(0) = 0 sent(1) = -5");
        edge("most are given one", "2 x fruit(PEAR, 0) set(0, 0, 3) set(1, 0, 1) want(1) want(3) sent(-1) = 2 sent(0) = 1 sent(1) = 0");
        edge("of several the first as a row", "2 x fruit(PEAR, 0) 2 x want(0) sent(0) = 0 sent(1) = 1");
        edge("no FRUIT twice, nor one that an earlier WANT has", "3 x fruit(PEAR, 0) 4 x want(0) sent(-1) = 3 sent(0) = 0 sent(1) = 1 sent(2) = 2 "
            + "sent(3) = -5");
        edge("six to six, of several the first", "6 x fruit(PEAR, 0) 6 x want(0) sent(-1) = 6 sent(0) = 0 sent(1) = 1 sent(2) = 2 sent(3) = 3 "
            + "sent(4) = 4 sent(5) = 5");
        edge("none is 9 there: the first WANT has one", "2 x fruit(PEAR, 0) set(0, 0, 1) 3 x want(1) sent(-1) = 1 sent(0) = 0 sent(1) = -5 "
            + "sent(2) = -5");
        edge("a greater number goes ahead of none", "6 x fruit(PEAR, 0) set(5, 0, 1) 2 x want(1) sent(0) = 5 sent(1) = -5");
        edge("the first as a row among those by which most are", "3 x fruit(PEAR, 0) set(0, 0, 3) set(1, 0, 3) set(2, 0, 1) want(1) want(2) want(3) "
            + "sent(-1) = 3 sent(0) = 2 sent(1) = 0 sent(2) = 1");
        edge("a WANT that nobody fits", "2 x fruit(PEAR, 0) want(1) want(0) want(0) sent(-1) = 2 sent(0) = -5 sent(1) = 0 sent(2) = 1");
        edge("six to six", "6 x fruit(PEAR, 0) set(0, 0, 1) set(1, 0, 2) set(2, 0, 4) set(3, 0, 8) set(4, 0, 16) set(5, 0, 32) "
            + "want(32) want(16) want(8) want(4) want(2) want(1) sent(-1) = 6 sent(0) = 5 sent(1) = 4 sent(2) = 3 sent(3) = 2 sent(4) = 1 "
            + "sent(5) = 0");
        edge("six WANTS, one FRUIT", "fruit(PEAR, 0) 6 x want(0) sent(-1) = 1 sent(0) = 0 sent(5) = -5");
        edge("only the last of six WANTS", "fruit(PEAR, 0) 5 x want(1) want(0) sent(-1) = 1 sent(0) = -5 sent(5) = 0");
        edge("one WANT, six FRUIT", "6 x fruit(PEAR, 0) want(0) sent(-1) = 1 sent(0) = 0");
        edge("k: -1 is taken, -2 is none", "fruit(PEAR, 0) want(0) sent(-1) = 1 sent(-2) = NONE");
        edge("k: the last row, and beyond", "fruit(PEAR, 0) 3 x want(0) sent(2) = -5 sent(3) = NONE sent(MAX) = NONE sent(MIN) = NONE");
        edge("k: rows that are gone", "fruit(PEAR, 0) 3 x want(0) want(-1) = 0 sent(0) = NONE sent(-1) = 0");
    }

    private static void termsOfSeenAndOdds() {
        part = "CAN of a FRUIT: how many numbers v (0 .. 9); the least (-5: none)";
        edge("nothing is SEEN", "fruit(PEAR, 0) can(0, 0) = 10 can(0, 1) = 0");
        edge("v 0 alone", "fruit(PEAR, 5) wall 'shade 5 v>0' see(0, 4095) can(0, 0) = 1 can(0, 1) = 0");
        edge("v 9 alone", "fruit(PEAR, 5) wall 'shade 5 v<9' see(0, 4095) can(0, 0) = 1 can(0, 1) = 9");
        edge("there is no v 10", "fruit(PEAR, 5) wall 'shade 5 v<10' see(0, 4095) can(0, 0) = 0 can(0, 1) = -5");
        edge("all but 9", "fruit(PEAR, 9) wall 'shade 5 v=9' see(0, 4095) can(0, 0) = 9 can(0, 1) = 0");
        edge("all but 0", "fruit(PEAR, 0) wall 'shade 5 v=0' see(0, 4095) can(0, 0) = 9 can(0, 1) = 1");
        edge("a BELL's", "fruit(BELL, 5) wall 'shade 4 p=0' see(0, 585) can(0, 0) = 4 can(0, 1) = 0");
        edge("a BELL's by 1", "fruit(BELL, 5) wall 'shade 4 p=0' see(0, 2340) can(0, 0) = 3 can(0, 1) = 1");
        edge("a BELL's by 2", "fruit(BELL, 5) wall 'shade 4 p=0' see(0, 1170) can(0, 0) = 3 can(0, 1) = 2");
        edge("all rows", "2 x fruit(PEAR, 5) wall 'shade 5 p=0&v<4;sun 1 p=1&h=0' see(0, 4094) can(0, 0) = 6 see(1, 1) can(0, 0) = 6 "
            + "can(0, 1) = 4 see(1, 3) can(0, 0) = 0");
        edge("the fifth row", "fruit(PEAR, 5) wall 'shade 5 v>7' 4 x see(0, 4095) can(0, 0) = 8 see(0, 0) can(0, 0) = 0 can(0, 1) = -5");
        edge("its own, and no more", "fruit(PEAR, 5) see(0, 2047) can(0, 0) = 0");
        edge("of another FRUIT's rows", "2 x fruit(PEAR, 5) wall 'sun 1 p=1&v=3' see(0, 4095) can(1, 0) = 9 can(0, 0) = 10 can(1, 1) = 0");
        edge("a CUT one has none", "fruit(PEAR, 5) cut(0, true) see(0, 0) can(0, 0) = 10");

        part = "ON WHICH: how many of the 10 DAYS from this one on; the first, counted from this one (0: this one; -5: none)";
        edge("nothing is SEEN", "which(0) = 10 which(1) = 0");
        edge("this one alone", "fruit(PEAR, 0) wall 'shade 5 d>0' see(0, 4095) which(0) = 1 which(1) = 0");
        edge("the tenth alone", "fruit(PEAR, 0) wall 'shade 5 d<9' see(0, 4095) which(0) = 1 which(1) = 9");
        edge("none", "fruit(PEAR, 0) wall 'shade 5 d<10' see(0, 4095) which(0) = 0 which(1) = -5");
        edge("counted from this one", "fruit(PEAR, 0) wall 'shade 5 d<9' see(0, 4095) pass(3) which(0) = 1 which(1) = 6");
        edge("the tenth from DAY 7 on", "fruit(PEAR, 0) wall 'shade 5 !d=6' see(0, 4095) pass(7) which(0) = 1 which(1) = 9");
        edge("were that DAY now: nothing ripens", "fruit(PEAR, 0) set(0, 1, 9) wall 'shade 5 r>0' see(0, 4095) which(0) = 10");
        edge("a KEPT one's", "fruit(KEPT, 0) see(0, 0) which(0) = 5 which(1) = 1 pass(1) which(0) = 5 which(1) = 0");

        part = "ODDS of a FRUIT and an HOUR: a fraction in lowest terms";
        edge("of one: it is CUT itself", "fruit(PEAR, 0) odds(0, 0, 0) = 0 odds(0, 0, 1) = 1");
        edge("of two", "2 x fruit(PEAR, 0) odds(0, 0, 0) = 1 odds(0, 0, 1) = 2 odds(1, 0, 0) = 1 odds(1, 0, 1) = 2");
        edge("of six", "6 x fruit(PEAR, 0) odds(0, 11, 0) = 5 odds(0, 11, 1) = 6 odds(1, 11, 0) = 1 odds(1, 11, 1) = 6 odds(2, 11, 0) = 0 "
            + "odds(2, 11, 1) = 1");
        String twin = "2 x fruit(PEAR, 0) fruit(TWIN, 0) ";
        edge("two of four are one of two", twin + "fruit(PEAR, 0) wall 'shade 1 p=0;shade 5 p=1|p>2' odds(2, 11, 0) = 1 odds(2, 11, 1) = 2");
        edge("two of six are one of three", twin + "3 x fruit(PEAR, 0) wall 'shade 1 p=0;shade 5 p=1|p>2' odds(2, 11, 0) = 1 odds(2, 11, 1) = 3");
        edge("one that is CUT already is as likely", "2 x fruit(PEAR, 0) cut(1, true) odds(0, 0, 0) = 1 odds(0, 0, 1) = 2");
        edge("of one that is CUT", "2 x fruit(PEAR, 0) cut(0, true) odds(0, 0, 0) = 0 odds(0, 0, 1) = 1");
        edge("nobody's HOUR", "2 x fruit(PEAR, 0) wall 'shade 5 h=0' odds(0, 0, 0) = 0 odds(0, 0, 1) = 1 odds(0, 1, 0) = 1");
        edge("on this DAY", "fruit(KEPT, 0) fruit(PEAR, 0) odds(0, 0, 0) = 1 pass(1) odds(0, 0, 0) = 0 odds(1, 0, 1) = 2");

        part = "MEAN: RIPE of all, CUT or not, together, by how many they are: a fraction in lowest terms (NO: there are none)";
        edge("none", "mean(0) = NO mean(1) = NO");
        edge("0", "6 x fruit(PEAR, 0) mean(0) = 0 mean(1) = 1");
        edge("one", "fruit(PEAR, 0) set(0, 1, 9999) mean(0) = 9999 mean(1) = 1");
        edge("all of six at most", "6 x fruit(PEAR, 0) set(0, 1, 9999) set(1, 1, 9999) set(2, 1, 9999) set(3, 1, 9999) set(4, 1, 9999) "
            + "set(5, 1, 9999) "
            + "mean(0) = 9999 mean(1) = 1 told(3) = 59994");
        edge("1 of six", "6 x fruit(PEAR, 0) set(5, 1, 1) mean(0) = 1 mean(1) = 6");
        edge("2 of six", "6 x fruit(PEAR, 0) set(5, 1, 2) mean(0) = 1 mean(1) = 3");
        edge("9 of six", "6 x fruit(PEAR, 0) set(5, 1, 9) mean(0) = 3 mean(1) = 2");
        edge("4 of six", "6 x fruit(PEAR, 0) set(5, 1, 4) mean(0) = 2 mean(1) = 3");
        edge("CUT or not", "2 x fruit(PEAR, 0) set(0, 1, 5) cut(0, true) cut(1, true) mean(0) = 5 mean(1) = 2");
    }

    private static void termsOfPlansAndBooks() {
        part = "a PLAN told by hand: 0 a DAY, 1 FRUIT n is CUT, 2 it is not, 3 RIPE of it is 0; ENDS";
        edge("no row: as it is now", "2 x fruit(PEAR, 0) set(0, 1, 31) set(1, 1, 8) ends(0) = 39 ends(1) = 1");
        edge("no FRUIT", "ends(0) = 0 ends(1) = 0 plan(0, 0) ends(0) = 0 ends(1) = 0");
        edge("0 a DAY", "fruit(PEAR, 0) plan(0, 0) ends(0) = 12");
        edge("1 it is CUT", "2 x fruit(PEAR, 0) set(0, 1, 30) plan(1, 0) ends(0) = 30 ends(1) = 0 plan(0, 0) ends(0) = 42");
        edge("1 one that is CUT", "fruit(PEAR, 0) cut(0, true) plan(1, 0) plan(0, 0) ends(0) = 0");
        edge("2 it is not", "fruit(PEAR, 0) cut(0, true) set(0, 1, 30) ends(1) = 0 plan(2, 0) ends(1) = 1 plan(0, 0) ends(0) = 42");
        edge("2 one that is not CUT", "fruit(PEAR, 0) plan(2, 0) plan(0, 0) ends(0) = 12");
        edge("3 RIPE is 0", "2 x fruit(PEAR, 0) set(0, 1, 40) set(1, 1, 50) plan(3, 1) ends(0) = 40 ends(1) = 1 plan(3, 0) ends(0) = 0 ends(1) = 0");
        edge("row by row", "fruit(PEAR, 0) plan(0, 0) plan(3, 0) ends(0) = 0 plan(0, 0) ends(0) = 12 plan(1, 0) plan(0, 0) ends(0) = 12 "
            + "ends(1) = 0 plan(2, 0) plan(0, 0) ends(0) = 24");
        edge("ten DAYS", "fruit(PEAR, 0) 9 x plan(0, 0) ends(0) = 108 plan(0, 0) = 10 ends(0) = 120 ends(1) = 1");
        edge("just RIPE ENOUGH", "fruit(PEAR, 0) wall 'ripe 24' plan(0, 0) ends(1) = 0 plan(0, 0) ends(1) = 1");
        edge("the last FRUIT", "6 x fruit(PEAR, 0) set(5, 1, 30) ends(1) = 1 plan(1, 5) ends(1) = 0 plan(2, 5) ends(1) = 1 plan(3, 5) ends(1) = 0");
        edge("DAY and RIPE of the walls go on", "fruit(PEAR, 0) wall 'shade 5 d=1;shade 5 r>0&d>1' 3 x plan(0, 0) ends(0) = 12 plan(3, 0) "
            + "plan(0, 0) ends(0) = 12");

        part = "a BOOK told by hand: LOOKED at: the number of the first of these rows by which it is otherwise now (-5: none)";
        edge("no row", "looked() = -5 fruit(PEAR, 0) looked() = -5");
        edge("the first row", "fruit(PEAR, 0) book(0, 1) looked() = 0");
        edge("the eighth row", "fruit(PEAR, 0) 7 x book(0, 0) looked() = -5 book(0, 1) looked() = 7");
        edge("the first of several", "fruit(PEAR, 0) book(0, 0) book(0, 1) book(0, 2) looked() = 1");
        edge("none", "fruit(PEAR, 0) set(0, 0, 4095) 8 x book(0, 4095) looked() = -5");
        edge("HOURS they HAD, all of them", "fruit(PEAR, 0) set(0, 0, 3) book(0, 1) looked() = 0 set(0, 0, 1) looked() = -5");
        edge("HOURS they HAD, no more", "fruit(PEAR, 0) set(0, 0, 3) book(0, 7) looked() = 0");
        edge("now", "fruit(PEAR, 0) book(0, 0) looked() = -5 pass(1) looked() = 0");
        edge("of each FRUIT its own", "6 x fruit(PEAR, 0) set(5, 0, 9) book(5, 9) book(0, 0) book(4, 9) looked() = 2");
    }

    private static void termsOfActs() {
        part = "BODIES: the numbers of those that ran, as they began";
        String[] kinds = {"PEAR", "EARLY", "LATE", "BELL", "TWIN", "KEPT", "TOLD"};
        int[][][] bodies = {
            {{10}, {11, 10}, {12, 11, 10}},
            {{10}, {20, 11, 10}, {12, 20, 11, 10}},
            {{30, 10}, {11, 30, 10}, {12, 11, 30, 10}},
            {{10}, {11, 10}, {40, 12, 11, 10, 11, 10}},
            {{50, 10}, {51, 20, 11, 50, 10}, {12, 51, 20, 11, 50, 10}},
            {{30, 10}, {11, 30, 10}, {60, 12, 11, 30, 10}},
            {{71, 10}, {70, 11, 71, 10, 10}, {40, 12, 70, 11, 71, 10, 10, 70, 11, 71, 10, 10}},
        };
        // By number 2, v 3 and x 5, reckoned by hand.
        int[][] answers = {{7, 4, 8}, {7, 2, 4}, {17, 14, 28}, {7, 4, 8}, {-7, -13, -26}, {17, 14, 16}, {4, 5, 11}};
        for (int kind = 0; kind < 7; kind++) {
            for (int act = 0; act < 3; act++) {
                StringBuilder run = new StringBuilder("2 x fruit(PEAR, 0) fruit(" + kinds[kind] + ", 3) act(2, " + act + ", 5) = "
            + "" + answers[kind][act]);
                run.append(" count(7) = ").append(bodies[kind][act].length);
                for (int i = 0; i < bodies[kind][act].length; i++) {
                    run.append(" trace(").append(i).append(") = ").append(bodies[kind][act][i]);
                }
                edge(kinds[kind] + " " + act, run + " trace(" + bodies[kind][act].length + ") = NONE");
            }
        }

        part = "ACTS of a FRUIT with x (wrapping)";
        edge("10: x + i", "2 x fruit(PEAR, 0) act(1, 0, MAX) = MIN act(1, 0, MIN) = -2147483647 act(0, 0, MAX) = MAX");
        edge("11: warms(x) - v", "fruit(PEAR, 9) act(0, 1, MIN) = 2147483639");
        edge("12: swells(x) * 2", "fruit(PEAR, 0) act(0, 2, 1073741823) = 2147483646 act(0, 2, 1073741824) = MIN act(0, 2, MIN) = 0");
        edge("20: super.swells(x) ^ 6", "fruit(EARLY, 0) act(0, 1, MIN) = -2147483642 act(0, 1, MAX) = 2147483641");
        edge("30: super.warms(x * 3)", "fruit(LATE, 0) act(0, 0, MAX) = 2147483645 act(0, 0, 715827883) = -2147483647 "
            + "act(0, 0, 715827882) = 2147483646");
        edge("40: super.tells(x) + swells(1)", "fruit(PEAR, 0) fruit(BELL, 0) act(1, 2, 1073741822) = MIN act(1, 2, 1073741821) = 2147483646");
        edge("50: -super.warms(x)", "fruit(TWIN, 0) act(0, 0, MIN) = MIN act(0, 0, MAX) = -2147483647");
        edge("51: super.swells(x + 1)", "fruit(TWIN, 0) act(0, 1, MAX) = -2147483642 act(0, 1, -1) = 6");
        edge("60: super.tells(x - i)", "fruit(PEAR, 0) fruit(KEPT, 0) act(1, 2, MIN) = -4 act(1, 2, 1) = 2");
        edge("70: super.swells(x) + super.warms(2)", "fruit(TOLD, 0) act(0, 1, MAX) = -2147483647 act(0, 1, -2) = 0");
        edge("71: super.warms(x) ^ v", "fruit(TOLD, 9) act(0, 0, MIN) = -2147483639 act(0, 0, 9) = 0");

        part = "THE TRACE: the bodies of the latest act()";
        edge("none at first", "trace(0) = NONE count(7) = 0");
        edge("the latest", "fruit(PEAR, 0) fruit(BELL, 0) act(1, 2, 0) act(0, 0, 0) count(7) = 1 trace(0) = 10 trace(1) = NONE");
        edge("the longest", "fruit(TOLD, 0) act(0, 2, 0) count(7) = 12 trace(11) = 10 trace(12) = NONE");
        edge("-1 and beyond", "fruit(TOLD, 0) act(0, 2, 0) trace(-1) = NONE trace(19) = NONE trace(20) = NONE trace(MIN) = NONE trace(MAX) = NONE");
        for (String no : new String[] {"act(1, 0, 1)", "act(-1, 0, 1)", "act(0, 3, 1)", "act(0, -1, 1)", "act(6, 3, 1)", ""
            + "act(0, MIN, 1)", "act(0, MAX, 1)"}) {
            edge("no TRACE behind " + no, "fruit(TOLD, 0) act(0, 2, 0) " + no + " = 0 count(7) = 0 trace(0) = NONE");
        }
        edge("the last act, and beyond", "fruit(PEAR, 0) act(0, 2, 7) = 14 act(0, 3, 7) = 0");
        edge("the first act, and below", "fruit(PEAR, 0) act(0, 0, 7) = 7 act(0, -1, 7) = 0");
        edge("of one that is CUT", "fruit(PEAR, 0) cut(0, true) act(0, 0, 7) = 7");
    }

    private static void termsOfTheImage() {
        part = "THE IMAGE: FRUIT with all that is theirs, DAY, WANTS, SEEN, the PLAN, the BOOK, which WALL holds";
        edge("KIND and v", "fruit(LATE, 3) image() = 1 undo() = 1 of(0, 0) = 2 of(0, 1) = 3");
        edge("FRUIT that came later are gone", "fruit(LATE, 3) image() = 1 fruit(PEAR, 0) undo() = 1 count(0) = 1 of(1, 0) = FAR");
        edge("one that comes in its place is another", "image() fruit(LATE, 3) undo() = 0 fruit(BELL, 4) = 0 of(0, 0) = 3 of(0, 1) = 4");
        edge("one that comes in its place is new", "image() fruit(TOLD, 3) cut(0, true) set(0, 0, 9) set(0, 1, 9) row(0, 1, 9) undo() = 0 "
            + "fruit(TOLD, 4) = 0 "
            + "of(0, 2) = 0 of(0, 3) = 0 of(0, 4) = 0 row(0, 1, 1) = 0");
        edge("FRUIT that were CUT", "fruit(PEAR, 0) cut(0, true) image() cut(0, false) = 1 undo() = 1 of(0, 2) = 1");
        edge("FRUIT that were not CUT", "fruit(PEAR, 0) image() cut(0, true) = 0 undo() = 1 of(0, 2) = 0");
        edge("HAD", "fruit(PEAR, 0) set(0, 0, 5) image() set(0, 0, 7) = 5 undo() = 1 of(0, 3) = 5");
        edge("RIPE", "fruit(PEAR, 0) set(0, 1, 5) image() set(0, 1, 7) = 5 undo() = 1 of(0, 4) = 5");
        edge("the ROW", "fruit(TOLD, 0) row(0, 0, 5) row(0, 3, 6) image() row(0, 0, 7) = 5 row(0, 3, 8) = 6 undo() = 1 row(0, 0, 1) = 5 "
            + "row(0, 3, 1) = 6");
        edge("DAY", "pass(3) image() pass(4) = 7 undo() = 0 told(0) = 3");
        edge("WANTS", "2 x fruit(PEAR, 0) set(1, 0, 2) want(2) image() want(-1) = 0 want(1) = 1 want(0) = 2 undo() = 2 count(2) = 1 sent(0) = 1");
        edge("SEEN", "2 x fruit(PEAR, 0) see(0, 4095) image() see(-1, 0) = 0 see(1, 4095) = 1 see(1, 7) = 2 which(0) = 0 undo() = 2 count(3) = 1 "
            + "which(0) = 10");
        edge("the PLAN", "fruit(PEAR, 0) plan(0, 0) image() plan(-1, 0) = 0 plan(1, 0) = 1 plan(0, 0) = 2 ends(0) = 0 undo() = 1 count(4) = 1 "
            + "ends(0) = 12");
        edge("the BOOK", "fruit(PEAR, 0) book(0, 0) image() book(-1, 0) = 0 book(0, 1) = 1 book(0, 0) = 2 looked() = 0 undo() = 1 count(5) = 1 "
            + "looked() = -5");
        edge("which WALL holds", "fruit(PEAR, 0) wall 'sun 1 p=0;ripe 5' image() wall 'ripe 6' = 1 undo() = 1 told(1) = 5 of(0, 10) = 6");
        edge("that none holds", "fruit(PEAR, 0) image() wall 'sun 1 p=0;ripe 5' undo() = 1 told(1) = 30 of(0, 10) = 5");
        edge("WALLS stay, and their numbers go on", "image() wall 'ripe 5' = 0 undo() = 0 count(1) = 1 wall 'ripe 6' = 1 count(1) = 2");
        edge("six WALLS stay six", "image() wall 'ripe 1' wall 'ripe 2' wall 'ripe 3' wall 'ripe 4' wall 'ripe 5' wall 'ripe 6' = 5 undo() = 0 "
            + "wall 'ripe 7' = FULL told(1) = 30");
        edge("THE TEXT is not in it", "image() feed 'ri' undo() = 0 count(6) = 2 feed 'pe 9' wall() = 0 told(1) = 9");
        edge("THE TRACE is not in it", "fruit(PEAR, 0) image() act(0, 1, 0) undo() = 1 count(7) = 2 trace(0) = 11");
        edge("TAPES are not in it", "tape(0, 2, 3) item(0, 1, 7) image() item(0, 1, 8) tape(1, 3, 2) undo() = 0 read(0, 1) = 8 read(1, 1) = 0");
        part = "THE IMAGE is taken; all is as THE IMAGE";
        edge("there is none", "undo() = STATE fruit(PEAR, 0) undo() = STATE count(0) = 1");
        edge("of no FRUIT", "image() = 0 6 x fruit(PEAR, 0) undo() = 0 count(0) = 0 told(3) = 0 told(10) = -5 mean(0) = NO");
        edge("of six FRUIT", SIX + "image() = 6 undo() = 6 fruit(PEAR, 0) = FULL");
        edge("the newest", "fruit(PEAR, 0) image() = 1 set(0, 0, 3) image() = 1 set(0, 0, 4) undo() = 1 of(0, 3) = 3");
        edge("it stays", "fruit(PEAR, 0) set(0, 0, 3) image() = 1 set(0, 0, 4) undo() = 1 set(0, 0, 5) = 3 undo() = 1 of(0, 3) = 3");
        edge("rows stay in it", "fruit(PEAR, 0) want(0) image() = 1 undo() = 1 want(1) = 2 want(2) = 3 undo() = 1 count(2) = 1 sent(0) = 0");
        edge("taken again behind undo", "fruit(PEAR, 0) image() = 1 fruit(PEAR, 0) undo() = 1 pass(2) image() = 1 pass(3) = 5 undo() = 1 "
            + "told(0) = 2");
        edge("there is room again", "image() 6 x fruit(PEAR, 0) undo() = 0 5 x fruit(PEAR, 0) fruit(LATE, 0) = 5 fruit(PEAR, 0) = FULL");
        edge("there is room for rows again", "fruit(PEAR, 0) image() 6 x want(0) 5 x see(0, 0) 10 x plan(0, 0) 8 x book(0, 0) undo() = 1 "
            + "want(0) = 1 see(0, 0) = 1 plan(0, 0) = 1 book(0, 0) = 1");
        edge("full rows are full again", "fruit(PEAR, 0) 6 x want(0) 5 x see(0, 0) 10 x plan(0, 0) 8 x book(0, 0) image() want(-1) see(-1, 0) "
            + "plan(-1, 0) book(-1, 0) "
            + "undo() = 1 want(0) = FULL see(0, 0) = FULL plan(0, 0) = FULL book(0, 0) = FULL");
        edge("DAYS may go again", TO_9960 + "image() pass(39) = 9999 undo() = 0 told(0) = 9960 pass(39) = 9999");
    }

    // ---- part 3 of the terms

    private static void termsOfTapes() {
        part = "TAPES 0 .. 5 hold nothing (at first), or a row of 0 bytes, 1 shorts, 2 ints, 3 longs, 4 booleans";
        for (int tape = 0; tape < 6; tape++) {
            edge("TAPE " + tape + " holds nothing", "read(#, 0) = NO item(#, 0, 0) = NOTHING shift(#, 0, #, 0, 0) = NOTHING".replace("#", "" + tape));
            edge("TAPE " + tape + " is its own", "tape(#, 2, 1) = 1 item(#, 0, 7) = 1 read(#, 0) = 7".replace("#", "" + tape));
        }
        for (String no : new String[] {"-1", "6", "7", "MIN", "MAX"}) {
            edge("there is no TAPE " + no, ("tape(#, 2, 1) = NONE tape(#, -1, 0) = NONE item(#, 0, 0) = NONE read(#, 0) = NO judge(#, 0) = NONE "
                + "tape(0, 2, 1) shift(#, 0, 0, 0, 0) = NONE shift(0, 0, #, 0, 0) = NONE shift(#, 0, #, 0, 0) = NONE").replace("#", no));
        }
        String[] sorts = {"bytes", "shorts", "ints", "longs", "booleans"};
        items("bytes", 0, new long[][] {
            {0, 0}, {1, 1}, {127, 127}, {128, -128}, {-128, -128}, {-129, 127}, {255, -1}, {256, 0}, {-1, -1}, {-256, 0},
            {Long.MAX_VALUE, -1}, {Long.MIN_VALUE, 0},
        });
        items("shorts", 1, new long[][] {
            {0, 0}, {128, 128}, {-129, -129}, {32767, 32767}, {32768, -32768}, {-32768, -32768}, {-32769, 32767}, {65535, -1},
            {65536, 0}, {Long.MAX_VALUE, -1}, {Long.MIN_VALUE, 0},
        });
        items("ints", 2, new long[][] {
            {0, 0}, {32768, 32768}, {-32769, -32769}, {2147483647L, 2147483647L}, {2147483648L, -2147483648L},
            {-2147483648L, -2147483648L}, {-2147483649L, 2147483647L}, {4294967295L, -1}, {4294967296L, 0},
            {Long.MAX_VALUE, -1}, {Long.MIN_VALUE, 0},
        });
        items("longs", 3, new long[][] {
            {0, 0}, {-1, -1}, {2147483648L, 2147483648L}, {-2147483649L, -2147483649L}, {4294967296L, 4294967296L},
            {Long.MAX_VALUE, Long.MAX_VALUE}, {Long.MIN_VALUE + 1, Long.MIN_VALUE + 1}, {Long.MIN_VALUE, Long.MIN_VALUE},
        });
        items("booleans", 4, new long[][] {
            {0, 0}, {1, 1}, {2, 1}, {-1, 1}, {256, 1}, {65536, 1}, {4294967296L, 1}, {Long.MAX_VALUE, 1}, {Long.MIN_VALUE, 1},
        });
        for (int sort = 0; sort < 5; sort++) {
            for (int other = 0; other < 5; other++) {
                edge(sorts[sort] + " to " + sorts[other], "tape(0, " + sort + ", 2) tape(1, " + other + ", 2) item(0, 0, 1) shift(0, 0, 1, 1, 1) = "
                    + (sort == other ? "1 read(1, 1) = 1" : "CAST read(1, 1) = 0"));
                edge("none of " + sorts[sort] + " to " + sorts[other], "tape(0, " + sort + ", 0) tape(1, " + other + ", 0) shift(0, 0, 1, 0, 0) = "
                    + (sort == other ? "0" : "CAST"));
            }
        }

        part = "what each HAD, told by a row of ints, from a place on, FRUIT by FRUIT, is JUDGED";
        String two = "2 x fruit(PEAR, 0) set(0, 0, 3) set(1, 0, 4095) tape(0, 2, 4) item(0, 1, 3) item(0, 2, 4095) ";
        edge("none is otherwise", two + "judge(0, 1) = -5");
        edge("the first is", two + "judge(0, 0) = 0 judge(0, 2) = 0");
        edge("the second is", two + "item(0, 2, 4094) judge(0, 1) = 1");
        edge("the row ends with the last", two + "tape(1, 2, 2) item(1, 0, 3) item(1, 1, 4095) judge(1, 0) = -5");
        edge("the row ends ahead of the last", two + "tape(1, 2, 2) item(1, 1, 3) judge(1, 1) = 101");
        edge("the row ends, but the first is otherwise", two + "judge(0, 3) = 0");
        edge("the row has ended", two + "judge(0, 4) = 100 judge(0, 5) = 100 judge(0, MAX) = 100");
        edge("the row has no item", two + "tape(1, 2, 0) judge(1, 0) = 100");
        edge("the place is below 0", two + "judge(0, -1) = 100 judge(0, MIN) = 100");
        edge("the TAPE holds nothing", two + "judge(1, 0) = 100 judge(1, -1) = 100 tape(0, -1, 0) judge(0, 1) = 100");
        edge("five of six looked at", "6 x fruit(PEAR, 0) tape(5, 2, 60) judge(5, 55) = 105 judge(5, 54) = -5 judge(5, 59) = 101 judge(5, 60) = 100");
        edge("the last of six is otherwise", "6 x fruit(PEAR, 0) set(5, 0, 1) tape(5, 2, 60) judge(5, 54) = 5 judge(5, 55) = 105");
        edge("an int that is no set", "fruit(PEAR, 0) set(0, 0, 4095) tape(0, 2, 2) item(0, 0, 8191) item(0, 1, -1) judge(0, 0) = 0 judge(0, 1) = 0");
        edge("there is no FRUIT", "tape(0, 2, 1) judge(0, 0) = -5 judge(0, 1) = -5 judge(0, -1) = -5 judge(1, 0) = -5");
        for (int sort = 0; sort < 5; sort++) {
            edge("a row of " + sorts[sort], "fruit(PEAR, 0) tape(0, " + sort + ", 1) judge(0, 0) = " + (sort == 2 ? "-5" : "CAST") + " "
            + "judge(0, -1) = "
                + (sort == 2 ? "100" : "CAST") + " judge(0, 1) = " + (sort == 2 ? "100" : "CAST"));
        }
    }

    private static void items(String what, int sort, long[][] kept) {
        for (long[] k : kept) {
            edge(k[0] + " in " + what, "tape(0, " + sort + ", 3) item(0, 1, " + k[0] + ") = 1 read(0, 1) = " + k[1] + " read(0, 0) = 0 "
            + "read(0, 2) = 0");
        }
    }

    // ---- the promises

    private static void promises1To9() {
        part = "promise 1, a new object";
        edge("no FRUIT", "count(0) = 0 of(0, 0) = FAR cut(0, true) = NONE told(2) = 0 told(3) = 0 told(4) = 0");
        edge("no WALL", "count(1) = 0 told(1) = 30 fruit(PEAR, 0) of(0, 10) = 5");
        edge("nothing told by hand", "count(2) = 0 count(3) = 0 count(4) = 0 count(5) = 0");
        edge("THE TEXT is empty", "count(6) = 0 feed(114) = 1");
        edge("no act() was", "count(7) = 0 trace(0) = NONE");

        part = "promise 2, fruit";
        String[] kinds = {"PEAR", "EARLY", "LATE", "BELL", "TWIN", "KEPT", "TOLD"};
        for (int kind = 0; kind < 7; kind++) {
            edge(kinds[kind], "fruit(" + kind + ", 0) = 0 of(0, 0) = " + kind);
        }
        for (String no : new String[] {"-1", "7", "8", "MIN", "MAX"}) {
            edge("there is no KIND " + no, "fruit(" + no + ", 0) = NONE count(0) = 0");
        }
        for (int v = 0; v < 10; v++) {
            edge("v " + v, "fruit(PEAR, " + v + ") = 0 of(0, 1) = " + v);
        }
        for (String no : new String[] {"-1", "10", "11", "MIN", "MAX"}) {
            edge("v " + no + " is not as told", "fruit(PEAR, " + no + ") = BAD count(0) = 0");
        }
        edge("the numbers are 0 .. 5", "fruit(PEAR, 0) = 0 fruit(PEAR, 0) = 1 fruit(PEAR, 0) = 2 fruit(PEAR, 0) = 3 fruit(PEAR, 0) = 4 "
            + "fruit(PEAR, 0) = 5");
        edge("FULL", SIX + "fruit(PEAR, 0) = FULL fruit(TOLD, 9) = FULL");
        edge("a refused one takes no number", "fruit(7, 0) = NONE fruit(0, 10) = BAD fruit(PEAR, 0) = 0");
        edge("NONE ahead of BAD", "fruit(7, 10) = NONE fruit(-1, -1) = NONE");
        edge("NONE ahead of FULL", SIX + "fruit(7, 0) = NONE");
        edge("BAD ahead of FULL", SIX + "fruit(0, 10) = BAD fruit(0, -1) = BAD");

        part = "promise 3, of";
        for (String no : new String[] {"-1", "8", "9", "22", "23", "MIN", "MAX", "-5"}) {
            edge("what " + no, "fruit(PEAR, 0) of(0, " + no + ") = FAR");
            edge("what " + no + " of no FRUIT", "of(0, " + no + ") = FAR");
        }
        edge("whether it is CUT", "2 x fruit(PEAR, 0) cut(1, true) of(0, 2) = 0 of(1, 2) = 1");
        edge("HAD at least and most", "fruit(PEAR, 0) of(0, 3) = 0 set(0, 0, 4095) of(0, 3) = 4095");
        edge("RIPE at least and most", "fruit(PEAR, 0) of(0, 4) = 0 set(0, 1, 9999) of(0, 4) = 9999");
        edge("a PULL of -1 is no NONE, one of -5 no -5", "fruit(PEAR, 0) wall 'shade 6 h=0;shade 10 h=1' of(0, 10) = -1 of(0, 11) = -5");
        edge("of no FRUIT, whatever is asked", "of(0, 0) = FAR of(0, 2) = FAR of(0, 5) = FAR of(0, 6) = FAR of(0, 7) = FAR of(0, 10) = FAR "
            + "of(0, 21) = FAR");

        part = "promise 4, cut";
        edge("it was not", "fruit(PEAR, 0) cut(0, true) = 0 of(0, 2) = 1");
        edge("it was", "fruit(PEAR, 0) cut(0, true) = 0 cut(0, true) = 1 of(0, 2) = 1");
        edge("not CUT, and was not", "fruit(PEAR, 0) cut(0, false) = 0 of(0, 2) = 0");
        edge("not CUT, and was", "fruit(PEAR, 0) cut(0, true) = 0 cut(0, false) = 1 of(0, 2) = 0");
        edge("the others stay", "6 x fruit(PEAR, 0) cut(0, true) cut(5, true) told(2) = 33 cut(0, false) told(2) = 32 cut(5, false) told(2) = 0");
        edge("no such one, not CUT", "cut(0, false) = NONE fruit(PEAR, 0) cut(1, false) = NONE cut(-1, false) = NONE");

        part = "promise 5, set";
        edge("HAD 0 .. 4095", "fruit(PEAR, 0) set(0, 0, 4095) = 0 set(0, 0, 0) = 4095 of(0, 3) = 0");
        edge("HAD -1", "fruit(PEAR, 0) set(0, 0, 5) set(0, 0, -1) = BAD of(0, 3) = 5");
        edge("HAD 4096", "fruit(PEAR, 0) set(0, 0, 5) set(0, 0, 4096) = BAD of(0, 3) = 5");
        edge("HAD 9999", "fruit(PEAR, 0) set(0, 0, 9999) = BAD");
        edge("RIPE 0 .. 9999", "fruit(PEAR, 0) set(0, 1, 9999) = 0 set(0, 1, 0) = 9999 of(0, 4) = 0");
        edge("RIPE 4096", "fruit(PEAR, 0) set(0, 1, 4096) = 0 of(0, 4) = 4096");
        edge("RIPE -1", "fruit(PEAR, 0) set(0, 1, 5) set(0, 1, -1) = BAD of(0, 4) = 5");
        edge("RIPE 10000", "fruit(PEAR, 0) set(0, 1, 5) set(0, 1, 10000) = BAD of(0, 4) = 5");
        edge("RIPE MIN, MAX", "fruit(PEAR, 0) set(0, 1, MIN) = BAD set(0, 1, MAX) = BAD");
        edge("what -1, 2", "fruit(PEAR, 0) set(0, -1, 0) = NONE set(0, 2, 0) = NONE set(0, MIN, 0) = NONE set(0, MAX, 0) = NONE");
        edge("NONE ahead of BAD", "set(0, 0, -1) = NONE fruit(PEAR, 0) set(0, 2, -1) = NONE set(0, -1, 10000) = NONE set(1, 1, 10000) = NONE");
        edge("the one is not the other", "fruit(PEAR, 0) set(0, 0, 8) set(0, 1, 9) of(0, 3) = 8 of(0, 4) = 9");
        edge("one that is CUT", "fruit(PEAR, 0) cut(0, true) set(0, 0, 8) = 0 set(0, 1, 9) = 0 of(0, 3) = 8 of(0, 4) = 9");

        part = "promise 6, row";
        for (int p = 0; p < 4; p++) {
            edge("part " + p, "fruit(TOLD, 0) row(0, " + p + ", 9) = 0 row(0, " + p + ", 4) = 9 row(0, " + p + ", 0) = 4");
        }
        for (String no : new String[] {"-1", "4", "MIN", "MAX"}) {
            edge("part " + no, "fruit(TOLD, 0) row(0, " + no + ", 1) = NONE");
        }
        edge("n 0 .. 9", "fruit(TOLD, 0) row(0, 0, 0) = 0 row(0, 0, 9) = 0 of(0, 10) = 14");
        edge("n -1", "fruit(TOLD, 0) row(0, 0, 3) row(0, 0, -1) = BAD row(0, 0, MIN) = BAD of(0, 10) = 8");
        edge("n 10", "fruit(TOLD, 0) row(0, 0, 3) row(0, 0, 10) = BAD row(0, 0, MAX) = BAD of(0, 10) = 8");
        for (int kind = 0; kind < 6; kind++) {
            edge("another KIND, " + kinds[kind], "fruit(" + kind + ", 0) row(0, 0, 5) = STATE row(0, 3, 0) = STATE");
        }
        edge("of two TOLD ones each has its own", "2 x fruit(TOLD, 0) row(0, 0, 3) row(1, 0, 4) of(0, 10) = 8 of(1, 10) = 9");
        edge("NONE ahead of BAD and STATE", "fruit(PEAR, 0) row(1, 0, 10) = NONE row(0, 4, 10) = NONE row(0, -1, 0) = NONE");
        edge("BAD ahead of STATE", "fruit(PEAR, 0) row(0, 0, 10) = BAD row(0, 0, -1) = BAD");

        part = "promise 7, feed";
        edge("0 is taken", "feed(0) = 1 count(6) = 1");
        edge("127 is taken", "feed(127) = 1 count(6) = 1");
        edge("-1 is not", "feed(-1) = BAD feed(MIN) = BAD count(6) = 0");
        edge("128 is not", "feed(128) = BAD feed(255) = BAD feed(256) = BAD feed(MAX) = BAD count(6) = 0");
        edge("how many it has", "feed(1) = 1 feed(2) = 2 feed(-1) = BAD feed(3) = 3");
        edge("FULL", "100 x feed(9) feed(9) = FULL feed(0) = FULL feed(127) = FULL count(6) = 100");
        edge("BAD ahead of FULL", "100 x feed(9) feed(128) = BAD feed(-1) = BAD");
        edge("room again behind wall()", "100 x feed(9) wall() = -10 feed(9) = 1");
        edge("behind THE TEXT's", "feed 'ripe 1' feed(50) = 7 wall() = 0 told(1) = 12");

        part = "promise 8, wall";
        edge("THE TEXT is empty then", "wall 'ripe 1' = 0 count(6) = 0 wall() = -10");
        edge("THE TEXT is empty behind a FAULT", "wall 'ripe ;' = -15 count(6) = 0 wall 'ripe 2' = 0");
        edge("nothing of a FAULT stays", "wall 'ripe 9;sun' = -20 told(1) = 30 wall 'sun 1 p=0' = 0 told(1) = 30");
        String six = "wall 'ripe 1' wall 'ripe 2' wall 'ripe 3' wall 'ripe 4' wall 'ripe 5' wall 'ripe 6' = 5 ";
        edge("FULL: THE TEXT stays", six + "feed 'ripe 7' wall() = FULL count(6) = 6 wall() = FULL feed(49) = 7 told(1) = 6");
        edge("FULL ahead of a FAULT", six + "feed 'rope' wall() = FULL count(6) = 4");
        edge("FULL without a TEXT", six + "wall() = FULL");

        part = "promise 9, told";
        for (String no : new String[] {"-1", "5", "6", "9", "22", "MIN", "MAX", "-5"}) {
            edge("what " + no, "told(" + no + ") = FAR fruit(PEAR, 0) told(" + no + ") = FAR");
        }
        edge("DAY", "told(0) = 0 pass(60) told(0) = 60");
        edge("DAY 9999", TO_9999 + "told(0) = 9999");
        edge("which are CUT", "6 x fruit(PEAR, 0) told(2) = 0 cut(0, true) told(2) = 1 cut(5, true) told(2) = 33");
        edge("RIPE of all", "2 x fruit(PEAR, 0) set(0, 1, 9999) set(1, 1, 9999) cut(0, true) told(3) = 19998");
        edge("none is RIPE ENOUGH", "6 x fruit(PEAR, 0) told(4) = 0");
        edge("all are RIPE ENOUGH", "6 x fruit(PEAR, 0) wall 'ripe 0' told(4) = 6");
        edge("CUT ones are not counted", "3 x fruit(PEAR, 0) wall 'ripe 0' cut(1, true) told(4) = 2");
        edge("whose the first and the last HOUR is", "fruit(EARLY, 0) fruit(LATE, 0) told(10) = 0 told(21) = 1");
    }

    private static void promises10To18() {
        part = "promise 10, pass";
        edge("0 DAYS", "fruit(PEAR, 0) pass(0) = 0 of(0, 3) = 0 of(0, 4) = 0");
        edge("60 DAYS", "fruit(PEAR, 0) pass(60) = 60 of(0, 4) = 720");
        edge("61 DAYS", "fruit(PEAR, 0) pass(61) = BAD pass(MAX) = BAD told(0) = 0 of(0, 4) = 0");
        edge("-1 DAYS", "fruit(PEAR, 0) pass(-1) = BAD pass(MIN) = BAD told(0) = 0 of(0, 4) = 0");
        edge("to 9999", TO_9960 + "pass(39) = 9999");
        edge("to 10000", TO_9960 + "pass(40) = STATE told(0) = 9960");
        edge("to 10020", TO_9960 + "pass(60) = STATE told(0) = 9960");
        edge("none behind 9999", TO_9999 + "pass(0) = 9999 pass(1) = STATE told(0) = 9999");
        edge("BAD ahead of STATE", TO_9999 + "pass(61) = BAD pass(-1) = BAD");

        part = "promise 11, on";
        for (String no : new String[] {"-1", "1", "2", "9", "12", "16", "19", "22", "26", "30", "MIN", "MAX"}) {
            edge("what " + no, "2 x fruit(PEAR, 0) on(0, " + no + ") = NONE on(30, " + no + ") = NONE");
        }
        edge("the first and the last FRUIT", "6 x fruit(PEAR, 0) set(0, 0, 1) set(0, 1, 2) set(5, 0, 3) set(5, 1, 4) on(0, 10) = 1 on(0, 20) = 2 "
            + "on(0, 15) = 3 on(0, 25) = 4");
        edge("n MIN, MAX", "on(MIN, 0) = BAD on(MAX, 0) = BAD");
        edge("NONE ahead of BAD", "on(31, 10) = NONE on(-1, 1) = NONE on(-1, 20) = NONE");

        part = "promise 12, clear";
        edge("NONE ahead of BAD", "clear(0, -1) = NONE fruit(PEAR, 0) clear(1, 4096) = NONE clear(-1, 4096) = NONE");
        edge("BAD, though it is CUT", "fruit(PEAR, 0) cut(0, true) clear(0, 4096) = BAD clear(0, -1) = BAD");

        part = "promise 13, help";
        edge("what -1, 2", "2 x fruit(PEAR, 0) help(1, -1) = NONE help(1, 2) = NONE help(1, MIN) = NONE help(1, MAX) = NONE");
        edge("NONE, though it is CUT", "fruit(PEAR, 0) cut(0, true) help(0, 2) = NONE help(0, -1) = NONE");

        part = "promise 14, want";
        edge("six", "want(0) = 1 want(1) = 2 want(2) = 3 want(3) = 4 want(4094) = 5 want(4095) = 6 want(0) = FULL want(4095) = FULL count(2) = 6");
        edge("none then", "6 x want(5) want(-1) = 0 count(2) = 0 want(6) = 1");
        edge("none then, of none", "want(-1) = 0 count(2) = 0");
        edge("BAD ahead of FULL", "6 x want(0) want(4096) = BAD want(-2) = BAD");
        edge("without FRUIT", "want(7) = 1");

        part = "promise 16, see";
        edge("five", "fruit(PEAR, 0) see(0, 0) = 1 see(0, 1) = 2 see(0, 2) = 3 see(0, 4094) = 4 see(0, 4095) = 5 see(0, 0) = FULL count(3) = 5");
        edge("none then", "fruit(PEAR, 0) 5 x see(0, 0) see(-1, 0) = 0 count(3) = 0 see(0, 4095) = 1");
        edge("none then, whatever the HOURS", "fruit(PEAR, 0) see(0, 0) see(-1, -1) = 0 see(-1, 4096) = 0 see(-1, MIN) = 0 see(-1, MAX) = 0");
        edge("none then, of none", "see(-1, 0) = 0");
        edge("NONE ahead of BAD and FULL", "fruit(PEAR, 0) 5 x see(0, 0) see(1, 4096) = NONE see(-2, -1) = NONE see(1, 0) = NONE");
        edge("BAD ahead of FULL", "fruit(PEAR, 0) 5 x see(0, 0) see(0, 4096) = BAD see(0, -1) = BAD");

        part = "promise 17, can";
        edge("what -1, 2", "fruit(PEAR, 0) can(0, -1) = NONE can(0, 2) = NONE can(0, MIN) = NONE can(0, MAX) = NONE");
        edge("its v stays", "fruit(PEAR, 5) see(0, 0) can(0, 0) = 0 of(0, 1) = 5 act(0, 1, 5) = 0");

        part = "promise 18, which";
        edge("what -1, 2", "which(-1) = NONE which(2) = NONE which(MIN) = NONE which(MAX) = NONE");
        edge("DAY stays", "pass(3) which(0) = 10 told(0) = 3");
    }

    private static void promises19To27() {
        part = "promise 19, odds";
        for (String no : new String[] {"-1", "12", "13", "MIN", "MAX"}) {
            edge("HOUR " + no, "fruit(PEAR, 0) odds(0, " + no + ", 0) = NO odds(0, " + no + ", 1) = NO");
        }
        for (String no : new String[] {"-1", "2", "MIN", "MAX"}) {
            edge("part " + no, "fruit(PEAR, 0) odds(0, 0, " + no + ") = NO");
        }
        edge("no FRUIT", "odds(0, 0, 0) = NO odds(0, 0, 1) = NO");

        part = "promise 20, mean";
        for (String no : new String[] {"-1", "2", "MIN", "MAX"}) {
            edge("part " + no, "fruit(PEAR, 0) mean(" + no + ") = NO");
        }

        part = "promise 21, plan";
        edge("what 0 .. 3", "fruit(PEAR, 0) plan(0, 0) = 1 plan(1, 0) = 2 plan(2, 0) = 3 plan(3, 0) = 4");
        for (String no : new String[] {"-2", "4", "MIN", "MAX"}) {
            edge("what " + no, "fruit(PEAR, 0) plan(" + no + ", 0) = NONE count(4) = 0");
        }
        edge("by 0 the FRUIT does not matter", "plan(0, -1) = 1 plan(0, 6) = 2 plan(0, MIN) = 3 plan(0, MAX) = 4 ends(0) = 0");
        edge("ten", "fruit(PEAR, 0) 9 x plan(1, 0) plan(0, 0) = 10 plan(0, 0) = FULL plan(3, 0) = FULL count(4) = 10");
        edge("it is empty then", "fruit(PEAR, 0) 10 x plan(0, 0) plan(-1, 0) = 0 count(4) = 0 ends(0) = 0 plan(0, 0) = 1");
        edge("it is empty then, whatever the FRUIT", "plan(0, 0) plan(-1, 9) = 0 plan(-1, -9) = 0 plan(-1, MIN) = 0");
        edge("NONE ahead of FULL", "fruit(PEAR, 0) 10 x plan(0, 0) plan(4, 0) = NONE plan(1, 1) = NONE plan(-2, 0) = NONE");

        part = "promise 22, ends";
        edge("what -1, 2", "ends(-1) = NONE ends(2) = NONE ends(MIN) = NONE ends(MAX) = NONE");

        part = "promise 23, book";
        edge("eight", "fruit(PEAR, 0) 6 x book(0, 0) book(0, 0) = 7 book(0, 4095) = 8 book(0, 0) = FULL count(5) = 8");
        edge("it is empty then", "fruit(PEAR, 0) 8 x book(0, 1) book(-1, 0) = 0 count(5) = 0 looked() = -5 book(0, 1) = 1");
        edge("it is empty then, whatever the HOURS", "fruit(PEAR, 0) book(0, 0) book(-1, -1) = 0 book(-1, 4096) = 0 book(-1, MIN) = 0");
        edge("NONE ahead of BAD and FULL", "fruit(PEAR, 0) 8 x book(0, 0) book(1, 4096) = NONE book(-2, -1) = NONE book(1, 0) = NONE");
        edge("BAD ahead of FULL", "fruit(PEAR, 0) 8 x book(0, 0) book(0, 4096) = BAD book(0, -1) = BAD");

        part = "promise 25, judge";
        edge("TAPE 5 is the last", "fruit(PEAR, 0) tape(5, 2, 1) judge(5, 0) = -5 judge(6, 0) = NONE");
        edge("TAPE 0 is the first", "fruit(PEAR, 0) tape(0, 2, 1) judge(0, 0) = -5 judge(-1, 0) = NONE");
        edge("NONE without FRUIT", "judge(6, -1) = NONE judge(-1, 0) = NONE");

        part = "promise 26, image, and 27, undo";
        edge("how many FRUIT there are", "image() = 0 fruit(PEAR, 0) image() = 1 5 x fruit(PEAR, 0) image() = 6 undo() = 6");
        edge("image() changes nothing else", "fruit(PEAR, 0) pass(3) image() = 1 of(0, 4) = 36 told(0) = 3 count(0) = 1");
    }

    private static void promises28To35() {
        part = "promise 30, taken";
        int[] above = {-1, 0, 0, 0, 1, 2, 3};
        for (int kind = 0; kind < 7; kind++) {
            for (int k = 0; k < 7; k++) {
                boolean is = k == kind || k == 0 || k == above[kind];
                edge("KIND " + kind + " for " + k, "fruit(" + kind + ", 0) taken(0, " + k + ") = " + (is ? "" + kind : "CAST"));
            }
            for (String no : new String[] {"-1", "7", "MIN", "MAX"}) {
                edge("k " + no, "fruit(" + kind + ", 0) taken(0, " + no + ") = BAD");
            }
        }
        edge("BAD ahead of NOTHING", "taken(0, 7) = BAD taken(-1, -1) = BAD");
        edge("NOTHING ahead of CAST", "fruit(PEAR, 0) taken(1, 6) = NOTHING taken(-1, 6) = NOTHING");

        part = "promise 31, count";
        for (String no : new String[] {"-1", "8", "MIN", "MAX"}) {
            edge("what " + no, "count(" + no + ") = BAD");
        }
        edge("each at most", SIX + "6 x want(0) 5 x see(0, 0) 10 x plan(0, 0) 8 x book(0, 0) count(0) = 6 count(2) = 6 count(3) = 5 count(4) = 10 "
            + "count(5) = 8");
        edge("WALLS at most", "wall 'ripe 1' wall 'ripe 2' wall 'ripe 3' wall 'ripe 4' wall 'ripe 5' wall 'ripe 6' count(1) = 6 100 x feed(1) "
            + "count(6) = 100");
        edge("of each alone", "fruit(PEAR, 0) want(0) count(2) = 1 count(3) = 0 see(0, 0) count(3) = 1 count(4) = 0 plan(0, 0) count(4) = 1 "
            + "count(5) = 0 book(0, 0) count(5) = 1 count(2) = 1");

        part = "promise 32, tape";
        for (int sort = 0; sort < 5; sort++) {
            edge("no item of sort " + sort, "tape(0, #, 0) = 1 read(0, 0) = NO item(0, 0, 1) = PLACE".replace("#", "" + sort));
            edge("sixty of sort " + sort, "tape(0, #, 60) = 1 read(0, 59) = 0 read(0, 60) = NO item(0, 59, 1) = 1 item(0, 60, 1) = PLACE".replace("#", "" + sort));
            edge("sixty-one of sort " + sort, "tape(0, #, 61) = BAD tape(0, #, MAX) = BAD item(0, 0, 1) = NOTHING".replace("#", "" + sort));
            edge("-1 of sort " + sort, "tape(0, #, -1) = SIZE tape(0, #, MIN) = SIZE item(0, 0, 1) = NOTHING".replace("#", "" + sort));
        }
        for (String no : new String[] {"-2", "5", "MIN", "MAX"}) {
            edge("sort " + no, "tape(0, " + no + ", 1) = BAD item(0, 0, 1) = NOTHING");
        }
        edge("it holds nothing: n does not matter", "tape(0, 2, 1) tape(0, -1, -1) = 1 item(0, 0, 1) = NOTHING tape(0, -1, 61) = 1 "
            + "tape(0, -1, MIN) = 1 tape(0, -1, MAX) = 1");
        edge("nothing is there any more", "fruit(PEAR, 0) tape(0, 2, 3) item(0, 0, 0) tape(1, 2, 3) tape(0, -1, 3) = 1 read(0, 0) = NO "
            + "read(0, 2) = NO "
            + "judge(0, 0) = 100 shift(0, 0, 1, 0, 0) = NOTHING shift(1, 0, 0, 0, 0) = NOTHING");
        edge("all 0, again", "tape(0, 2, 60) item(0, 0, 7) item(0, 59, 8) tape(0, 2, 60) = 1 read(0, 0) = 0 read(0, 59) = 0");
        edge("all 0, longer again", "tape(0, 2, 5) item(0, 4, 7) tape(0, 2, 2) = 1 tape(0, 2, 5) = 1 read(0, 4) = 0");
        edge("all 0, behind nothing", "tape(0, 2, 5) item(0, 4, 7) tape(0, -1, 0) = 1 tape(0, 3, 5) = 1 read(0, 4) = 0");
        edge("what is refused changes nothing", "tape(0, 3, 2) item(0, 1, 7) tape(0, 5, 2) = BAD tape(0, 2, 61) = BAD tape(0, 2, -1) = SIZE "
            + "tape(0, -2, 0) = BAD read(0, 1) = 7 item(0, 1, 4294967296) = 1 read(0, 1) = 4294967296");
        edge("NONE ahead of BAD", "tape(6, 5, 61) = NONE tape(-1, -2, 0) = NONE");
        edge("NONE ahead of SIZE", "tape(6, 2, -1) = NONE");
        edge("BAD ahead of SIZE", "tape(0, 5, -1) = BAD tape(0, -2, -1) = BAD");

        part = "promise 33, item, and 34, read";
        edge("the first and the last", "tape(0, 2, 3) item(0, 0, 4) = 1 item(0, 2, 6) = 1 read(0, 0) = 4 read(0, 1) = 0 read(0, 2) = 6");
        edge("below and beyond", "tape(0, 2, 3) item(0, -1, 4) = PLACE item(0, 3, 4) = PLACE item(0, MIN, 4) = PLACE item(0, MAX, 4) = PLACE "
            + "read(0, -1) = NO read(0, 3) = NO read(0, MIN) = NO read(0, MAX) = NO");
        edge("nothing there", "item(0, 0, 4) = NOTHING read(0, 0) = NO");
        edge("NONE ahead of NOTHING and PLACE", "item(6, 0, 4) = NONE item(-1, -1, 4) = NONE");
        edge("NOTHING ahead of PLACE", "item(0, -1, 4) = NOTHING item(0, 60, 4) = NOTHING");
        edge("a shorter row than before", "tape(0, 2, 5) item(0, 4, 7) tape(0, 2, 4) read(0, 4) = NO item(0, 4, 1) = PLACE");

        part = "promise 35, shift";
        String rows = "tape(0, 2, 5) item(0, 0, 1) item(0, 1, 2) item(0, 2, 3) item(0, 3, 4) item(0, 4, 5) tape(1, 2, 3) item(1, 0, 6) "
            + "item(1, 1, 7) item(1, 2, 8) ";
        edge("a whole row", rows + "shift(1, 0, 0, 2, 3) = 3 read(0, 1) = 2 read(0, 2) = 6 read(0, 3) = 7 read(0, 4) = 8 read(1, 0) = 6");
        edge("the last items", rows + "shift(0, 2, 1, 0, 3) = 3 read(1, 0) = 3 read(1, 1) = 4 read(1, 2) = 5 read(0, 2) = 3");
        edge("one", rows + "shift(0, 4, 1, 2, 1) = 1 read(1, 1) = 7 read(1, 2) = 5");
        edge("none", rows + "shift(0, 0, 1, 0, 0) = 0 read(1, 0) = 6");
        edge("none, at both ends", rows + "shift(0, 5, 1, 3, 0) = 0");
        edge("none, beyond its end", rows + "shift(0, 6, 1, 0, 0) = PLACE");
        edge("none, beyond the other's end", rows + "shift(0, 0, 1, 4, 0) = PLACE");
        edge("one, beyond its end", rows + "shift(0, 5, 1, 0, 1) = PLACE shift(0, 3, 1, 0, 3) = PLACE");
        edge("one, beyond the other's end", rows + "shift(0, 0, 1, 3, 1) = PLACE shift(0, 0, 1, 1, 3) = PLACE shift(0, 0, 1, 0, 4) = PLACE");
        edge("n below 0", rows + "shift(0, 0, 1, 0, -1) = PLACE shift(0, 0, 1, 0, MIN) = PLACE shift(0, 1, 1, 1, -1) = PLACE");
        edge("i below 0", rows + "shift(0, -1, 1, 0, 1) = PLACE shift(0, -1, 1, 0, 0) = PLACE shift(0, MIN, 1, 0, 1) = PLACE");
        edge("j below 0", rows + "shift(0, 0, 1, -1, 1) = PLACE shift(0, 0, 1, -1, 0) = PLACE shift(0, 0, 1, MIN, 1) = PLACE");
        edge("what would wrap", rows + "shift(0, MAX, 1, 0, 1) = PLACE shift(0, 0, 1, MAX, 1) = PLACE shift(0, 1, 1, 0, MAX) = PLACE "
            + "shift(0, MAX, 1, MAX, MAX) = PLACE shift(0, MAX, 1, MAX, 0) = PLACE");
        edge("the same, on: as they all were before", rows + "shift(0, 0, 0, 1, 4) = 4 read(0, 0) = 1 read(0, 1) = 1 read(0, 2) = 2 "
            + "read(0, 3) = 3 read(0, 4) = 4");
        edge("the same, back: as they all were before", rows + "shift(0, 1, 0, 0, 4) = 4 read(0, 0) = 2 read(0, 1) = 3 read(0, 2) = 4 "
            + "read(0, 3) = 5 read(0, 4) = 5");
        edge("the same, in place", rows + "shift(0, 0, 0, 0, 5) = 5 read(0, 0) = 1 read(0, 4) = 5");
        edge("the same, beyond its end", rows + "shift(0, 0, 0, 1, 5) = PLACE read(0, 1) = 2");
        edge("sixty", "tape(0, 3, 60) item(0, 0, 9) item(0, 59, 8) tape(5, 3, 60) shift(0, 0, 5, 0, 60) = 60 read(5, 0) = 9 read(5, 59) = 8 "
            + "shift(0, 0, 5, 0, 61) = PLACE");
        edge("the other is nothing", rows + "shift(0, 0, 2, 0, 1) = NOTHING");
        edge("it is nothing", rows + "shift(2, 0, 0, 0, 1) = NOTHING");
        edge("NONE ahead of NOTHING, CAST and PLACE", rows + "shift(6, -1, 2, 0, -1) = NONE shift(2, 0, 6, 0, 1) = NONE "
            + "shift(-1, 0, -1, 0, 0) = NONE");
        edge("NOTHING ahead of PLACE", rows + "shift(0, -1, 2, 0, 1) = NOTHING shift(2, 0, 0, 0, -1) = NOTHING");
        edge("CAST ahead of PLACE", rows + "tape(2, 3, 1) shift(0, -1, 2, 0, 1) = CAST shift(2, 0, 0, 9, -1) = CAST");
    }

    // ---- what is answered so changes nothing; what is asked changes nothing

    /** Something of everything: an image that is not as all is now, rows, a begun text, a trace, tapes of all sorts. */
    private static final String RICH = """
        fruit(PEAR, 3) fruit(TOLD, 4) fruit(TWIN, 5) wall 'sun 2 p=1&h<6;ripe 8' set(0, 0, 5) set(1, 1, 7) row(1, 2, 3)
        cut(0, true) pass(1) want(1) see(1, 6) plan(0, 0) book(0, 5) image() fruit(KEPT, 6) fruit(BELL, 7) cut(0, false)
        cut(2, true) set(3, 0, 9) set(4, 1, 21) row(1, 0, 5) pass(2) wall 'shade 3 h>8|k=4;sun 1 v>3;ripe 9' want(4) want(0)
        see(0, 0) plan(1, 1) plan(0, 0) plan(3, 0) book(3, 9) book(1, 1) feed 'sun 3 p=1' act(1, 2, 7) tape(0, 0, 3) item(0, 1, 5)
        tape(1, 1, 3) item(1, 2, 300) tape(2, 2, 8) item(2, 0, 4095) tape(3, 3, 2) item(3, 1, 4294967296) tape(4, 4, 2)
        item(4, 0, 1)
        """;
    /** All that can be full is. */
    private static final String FULL = SIX + """
        wall 'ripe 1' wall 'ripe 2' wall 'ripe 3' wall 'ripe 4' wall 'sun 2 p>3' wall 'sun 1 v>2' pass(1) want(1) want(2) want(64)
        want(2048) want(3) want(0) see(0, 0) see(1, 0) see(2, 0) see(3, 0) see(4, 0) plan(0, 0) plan(1, 4) plan(0, 0) plan(3, 5)
        plan(2, 4) plan(0, 0) plan(1, 5) plan(0, 0) plan(0, 0) plan(3, 2) 7 x book(0, 0) book(5, 9) image() act(3, 2, 1)
        tape(0, 2, 60) item(0, 59, 7) 100 x feed(114)
        """;

    private static void whatIsRefusedAndAskedChangesNothing() {
        part = "what is answered so changes nothing";
        String refused = """
            fruit(7, 0) = NONE; fruit(-1, 0) = NONE; fruit(0, 10) = BAD; fruit(0, -1) = BAD; cut(5, true) = NONE;
            cut(-1, true) = NONE; cut(5, false) = NONE; set(5, 0, 1) = NONE; set(-1, 0, 1) = NONE; set(0, 2, 1) = NONE;
            set(0, -1, 1) = NONE; set(0, 0, 4096) = BAD; set(0, 0, -1) = BAD; set(0, 1, 10000) = BAD; set(0, 1, -1) = BAD;
            row(5, 0, 1) = NONE; row(-1, 0, 1) = NONE; row(1, 4, 1) = NONE; row(1, -1, 1) = NONE; row(1, 0, 10) = BAD;
            row(1, 0, -1) = BAD; row(0, 0, 1) = STATE; row(4, 0, 1) = STATE; feed(-1) = BAD; feed(128) = BAD; pass(-1) = BAD;
            pass(61) = BAD; want(-2) = BAD; want(4096) = BAD; see(5, 0) = NONE; see(-2, 0) = NONE; see(0, 4096) = BAD;
            see(0, -1) = BAD; plan(4, 0) = NONE; plan(-2, 0) = NONE; plan(1, 5) = NONE; plan(2, -1) = NONE; plan(3, 5) = NONE;
            book(5, 0) = NONE; book(-2, 0) = NONE; book(0, 4096) = BAD; book(0, -1) = BAD; tape(6, 2, 3) = NONE;
            tape(-1, 2, 3) = NONE; tape(6, -1, 3) = NONE; tape(2, 5, 3) = BAD; tape(2, -2, 3) = BAD; tape(2, 2, 61) = BAD;
            tape(2, 2, -1) = SIZE; item(6, 0, 1) = NONE; item(-1, 0, 1) = NONE; item(5, 0, 1) = NOTHING; item(2, 8, 1) = PLACE;
            item(2, -1, 1) = PLACE; item(0, 3, 1) = PLACE; shift(6, 0, 2, 0, 1) = NONE; shift(2, 0, 6, 0, 1) = NONE;
            shift(-1, 0, 2, 0, 1) = NONE; shift(2, 0, -1, 0, 1) = NONE; shift(5, 0, 2, 0, 1) = NOTHING;
            shift(2, 0, 5, 0, 1) = NOTHING; shift(2, 0, 3, 0, 1) = CAST; shift(0, 1, 1, 0, 1) = CAST;
            shift(2, -1, 2, 0, 1) = PLACE; shift(2, 0, 2, -1, 1) = PLACE; shift(2, 0, 2, 1, 8) = PLACE;
            shift(2, 0, 2, 3, -1) = PLACE; shift(2, 7, 2, 0, 2) = PLACE; shift(2, 0, 2, 7, 2) = PLACE
            """;
        for (String call : refused.split(";")) {
            edge(call.trim(), RICH + call);
        }
        String full = "fruit(0, 0) = FULL;feed(0) = FULL;wall() = FULL;want(0) = FULL;see(0, 0) = FULL;plan(0, 0) = FULL;"
            + "plan(1, 0) = FULL;book(0, 0) = FULL";
        for (String call : full.split(";")) {
            edge(call, FULL + call);
        }
        edge("undo() without an IMAGE", "fruit(PEAR, 0) pass(2) want(0) undo() = STATE");
        edge("pass() to 10000", TO_9999 + "fruit(PEAR, 0) pass(1) = STATE");

        part = "what is asked changes nothing";
        List<String> asked = new ArrayList<>();
        for (int p = -1; p < 6; p++) {
            for (int what = 0; what < 8; what++) {
                asked.add("of(" + p + ", " + what + ")");
            }
            asked.add("of(" + p + ", 10)");
            asked.add("of(" + p + ", 21)");
            asked.add("on(30, " + (10 + p) + ")");
            asked.add("on(30, " + (20 + p) + ")");
            for (String hours : new String[] {"0", "1", "2048", "4095", "4096"}) {
                asked.add("clear(" + p + ", " + hours + ")");
            }
            for (int what = 0; what < 3; what++) {
                asked.add("help(" + p + ", " + what + ")");
                asked.add("can(" + p + ", " + what + ")");
                asked.add("odds(" + p + ", 11, " + what + ")");
            }
            asked.add("taken(" + p + ", 0)");
            asked.add("taken(" + p + ", 6)");
            asked.add("sent(" + p + ")");
            asked.add("judge(" + p + ", 0)");
            asked.add("judge(" + p + ", -1)");
            asked.add("read(" + p + ", 0)");
            asked.add("read(" + p + ", 60)");
        }
        for (int what = -1; what < 9; what++) {
            asked.add("told(" + what + ")");
            asked.add("told(" + (13 + what) + ")");
            asked.add("count(" + what + ")");
            asked.add("trace(" + what + ")");
        }
        for (int what = -1; what < 3; what++) {
            asked.add("which(" + what + ")");
            asked.add("mean(" + what + ")");
            asked.add("ends(" + what + ")");
        }
        asked.addAll(List.of("on(0, 0)", "on(30, 0)", "on(31, 0)", "looked()"));
        for (String call : asked) {
            changesNothing(call, calls(RICH + call));
            changesNothing(call, calls(FULL + call));
        }
        part = "image() takes only THE IMAGE, act() only THE TRACE";
        same("image()", RICH + "image()", RICH, "IMAGE");
        same("undo(), when all is as THE IMAGE", RICH + "image() undo()", RICH + "image()", "");
        same("act()", RICH + "act(1, 1, 3)", RICH, "TRACE");
        same("act() with no such FRUIT", RICH + "act(5, 1, 3)", RICH, "TRACE");
        same("pass(0)", RICH + "pass(0)", RICH, "");
        same("shift() of none", RICH + "shift(2, 1, 2, 3, 0)", RICH, "");
        same("cut() of one that is CUT", RICH + "cut(2, true)", RICH, "");
        same("cut() of one that is not", RICH + "cut(1, false)", RICH, "");
    }

    // ---- how a run is done

    private static void edge(String what, String run) {
        edge(what, calls(run));
    }

    private static void edge(String what, List<Call> run) {
        runs++;
        must(run.size() <= MOST_CALLS, what, "a run has at most 512 calls");
        PearSummer x = new PearSummer();
        for (int i = 0; i < run.size(); i++) {
            Call call = run.get(i);
            long got = call.answer(x);
            if (call.due == null) {
                must(got >= 0, what, call + " was refused: " + got);
            } else {
                must(got == call.due, what, call + " is " + got + ", due is " + call.due);
            }
        }
        for (int i = 0; i < run.size(); i++) {
            if (run.get(i).due != null && (run.get(i).asks() || run.get(i).isRefused())) {
                changesNothing(what, run.subList(0, i + 1));
            }
        }
    }

    /** The last call of the run has changed nothing that can be seen. */
    private static void changesNothing(String what, List<Call> run) {
        List<Call> without = run.subList(0, run.size() - 1);
        for (Look look : Look.ALL) {
            must(look.of(run).equals(look.of(without)), what, run.get(run.size() - 1) + " changes something: " + look.name);
        }
    }

    private static void same(String what, String run, String other, String but) {
        for (Look look : Look.ALL) {
            must(look.name.equals(but) || look.of(calls(run)).equals(look.of(calls(other))), what, "something is otherwise: " + look.name);
        }
    }

    private static void must(boolean is, String what, String otherwise) {
        if (!is) {
            wrong++;
            if (wrong < 100) {
                System.out.println(part + " -- " + what + ": " + otherwise);
            }
        }
    }

    /** Calls that, on an object of their own behind a run, show a part of its state. */
    private static final class Look {
        static final List<Look> ALL = all();

        final String name;
        final List<Call> calls;

        Look(String name, String calls) {
            this.name = name;
            this.calls = calls(calls);
        }

        static List<Look> all() {
            StringBuilder fruit = new StringBuilder();
            StringBuilder pulls = new StringBuilder();
            StringBuilder rows = new StringBuilder("which(0) which(1) ends(0) ends(1) looked() mean(0) mean(1) ");
            StringBuilder trace = new StringBuilder("count(7) ");
            StringBuilder sorts = new StringBuilder();
            StringBuilder first = new StringBuilder();
            StringBuilder second = new StringBuilder();
            for (int p = 0; p < 6; p++) {
                for (int what = 0; what < 8; what++) {
                    fruit.append("of(" + p + ", " + what + ") ");
                }
                for (int h = 0; h < 12; h++) {
                    pulls.append("of(" + p + ", " + (10 + h) + ") ");
                }
                rows.append("can(" + p + ", 0) can(" + p + ", 1) sent(" + (p - 1) + ") ");
                sorts.append("item(" + p + ", 0, 6442483841) read(" + p + ", 0) shift(0, 0, " + p + ", 0, 0) shift(3, 0, " + p + ", 0, 0) ");
                for (int i = 0; i <= 60; i++) {
                    (p < 3 ? first : second).append("read(" + p + ", " + i + ") ");
                }
            }
            for (int i = 0; i < 5; i++) {
                fruit.append("told(" + i + ") ");
            }
            for (int i = 0; i < 7; i++) {
                fruit.append("count(" + i + ") ");
            }
            for (int i = 0; i < 14; i++) {
                trace.append("trace(" + i + ") ");
            }
            return List.of(new Look("FRUIT", fruit.toString()), new Look("PULL", pulls.toString()), new Look("rows", rows + "sent(5)"),
                new Look("TRACE", trace.toString()), new Look("sorts", sorts.toString()), new Look("TAPES 0 .. 2", first.toString()),
                new Look("TAPES 3 .. 5", second.toString()), new Look("TEXT", "wall() told(1) " + pulls),
                new Look("IMAGE", "undo() " + fruit + pulls + rows));
        }

        List<Long> of(List<Call> run) {
            must(run.size() + calls.size() <= MOST_CALLS, name, "a look has at most 512 calls");
            PearSummer x = new PearSummer();
            for (Call call : run) {
                call.answer(x);
            }
            List<Long> answers = new ArrayList<>();
            for (Call call : calls) {
                answers.add(call.answer(x));
            }
            return answers;
        }
    }

    private static final Pattern CALL = Pattern.compile("\\s*(?:(\\d+) x )?(\\w+)(?:\\(([^)]*)\\)| '([^']*)')(?: = (-?\\w+))?\\s*");

    private static List<Call> calls(String text) {
        List<Call> calls = new ArrayList<>();
        Matcher m = CALL.matcher(text);
        int at = 0;
        while (at < text.trim().length()) {
            if (!m.find(at) || m.start() != at) {
                throw new IllegalArgumentException("no call: " + text.substring(at));
            }
            at = m.end();
            Long due = m.group(5) == null ? null : number(m.group(5));
            if (m.group(4) != null) {
                for (char sign : m.group(4).toCharArray()) {
                    calls.add(new Call("feed", new long[] {sign}, null));
                }
                if (m.group(2).equals("wall")) {
                    calls.add(new Call("wall", new long[0], due));
                }
                continue;
            }
            String[] args = m.group(3).isEmpty() ? new String[0] : m.group(3).split(", ");
            Call call = new Call(m.group(2), Arrays.stream(args).mapToLong(PearSummerEdges::number).toArray(), due);
            for (int i = m.group(1) == null ? 1 : Integer.parseInt(m.group(1)); i > 0; i--) {
                calls.add(call);
            }
        }
        return calls;
    }

    private static long number(String word) {
        switch (word) {
            case "NONE": return -1;
            case "BAD": return -2;
            case "STATE": return -3;
            case "FULL": return -4;
            case "NOTHING": return -11;
            case "CAST": return -12;
            case "PLACE": return -13;
            case "SIZE": return -14;
            case "FAR": return -10001;
            case "NO": return Long.MIN_VALUE;
            case "MIN": return Integer.MIN_VALUE;
            case "MAX": return Integer.MAX_VALUE;
            case "PEAR": case "false": return 0;
            case "EARLY": case "true": return 1;
            case "LATE": return 2;
            case "BELL": return 3;
            case "TWIN": return 4;
            case "KEPT": return 5;
            case "TOLD": return 6;
            default: return Long.parseLong(word);
        }
    }

    private static final class Call {
        static final List<String> QUESTIONS = List.of("of", "told", "on", "clear", "help", "sent", "can", "which", "odds", "mean", "ends", "looked", "judge",
            "trace", "taken", "count", "read");

        final String name;
        final long[] args;
        final Long due;

        Call(String name, long[] args, Long due) {
            this.name = name;
            this.args = args;
            this.due = due;
        }

        boolean asks() {
            return QUESTIONS.contains(name);
        }

        /** A fault empties the text, and an act with no such fruit the trace: no call that is refused so is meant here. */
        boolean isRefused() {
            return name.equals("wall") ? due == -4 : due < 0 && !name.equals("act");
        }

        int arg(int i) {
            return Math.toIntExact(args[i]);
        }

        long answer(PearSummer x) {
            switch (name) {
                case "fruit": return x.fruit(arg(0), arg(1));
                case "of": return x.of(arg(0), arg(1));
                case "cut": return x.cut(arg(0), arg(1) != 0);
                case "set": return x.set(arg(0), arg(1), arg(2));
                case "row": return x.row(arg(0), arg(1), arg(2));
                case "feed": return x.feed(arg(0));
                case "wall": return x.wall();
                case "told": return x.told(arg(0));
                case "pass": return x.pass(arg(0));
                case "on": return x.on(arg(0), arg(1));
                case "clear": return x.clear(arg(0), arg(1));
                case "help": return x.help(arg(0), arg(1));
                case "want": return x.want(arg(0));
                case "sent": return x.sent(arg(0));
                case "see": return x.see(arg(0), arg(1));
                case "can": return x.can(arg(0), arg(1));
                case "which": return x.which(arg(0));
                case "odds": return x.odds(arg(0), arg(1), arg(2));
                case "mean": return x.mean(arg(0));
                case "plan": return x.plan(arg(0), arg(1));
                case "ends": return x.ends(arg(0));
                case "book": return x.book(arg(0), arg(1));
                case "looked": return x.looked();
                case "judge": return x.judge(arg(0), arg(1));
                case "image": return x.image();
                case "undo": return x.undo();
                case "act": return x.act(arg(0), arg(1), arg(2));
                case "trace": return x.trace(arg(0));
                case "taken": return x.taken(arg(0), arg(1));
                case "count": return x.count(arg(0));
                case "tape": return x.tape(arg(0), arg(1), arg(2));
                case "item": return x.item(arg(0), arg(1), args[2]);
                case "read": return x.read(arg(0), arg(1));
                case "shift": return x.shift(arg(0), arg(1), arg(2), arg(3), arg(4));
                default: throw new IllegalArgumentException(name);
            }
        }

        @Override
        public String toString() {
            return name + Arrays.toString(args).replace('[', '(').replace(']', ')');
        }
    }
}
