/** Promises 12 to 18: dies, having, coins, brought, inherited, first, longest; worlds reckoned by hand. */
public final class YearsTest {
    private static final Checks CHECKS = new Checks("YearsTest");

    public static void main(String[] args) {
        checkGains();
        checkLucky();
        checkHavingAge();
        checkHavingNeedsAll();
        checkLimit();
        checkHavingOnTheLastTurn();
        checkNoDeathByTheLastYear();
        checkPaysAsFarAsCoinsGo();
        checkTurnsInOneYear();
        checkLostToTheDeadAndUnborn();
        checkSeveralBequests();
        checkFirst();
        checkLongest();
        checkAnswersFollowChanges();
        checkNothingStaysOfEarlierYears();
        checkWrongNumbers();
        CHECKS.finish();
    }

    private static void coins(String text, int i, int[][] yearsAndCoins) {
        WillsReadFirst x = Checks.laid(text);
        for (int[] pair : yearsAndCoins) {
            CHECKS.due(text + " coins(" + i + ", " + pair[0] + ")", x.coins(i, pair[0]), pair[1]);
        }
    }

    private static void checkGains() {
        coins("p3,7,99,0;", 0, new int[][] {{0, 0}, {2, 0}, {12, 0}, {13, 7}, {14, 14}, {101, 623}, {102, 0}, {150, 0}});
        coins("p3,7,99,0;g0,9;", 0, new int[][] {{2, 0}, {3, 9}, {12, 9}, {13, 16}});
        coins("p3,7,99,2;", 0, new int[][] {{12, 0}, {13, 3}, {14, 6}, {33, 63}});
        coins("p3,1,99,2;", 0, new int[][] {{13, 0}, {101, 0}});
        coins("p3,8,99,2;", 0, new int[][] {{13, 4}});
        coins("p3,7,99,3;", 0, new int[][] {{13, 0}, {32, 0}, {33, 14}, {34, 28}});
        coins("p0,0,99,0;", 0, new int[][] {{98, 0}});
        coins("p60,9,99,0;", 0, new int[][] {{59, 0}, {69, 0}, {70, 9}, {150, 729}});
    }

    /** The draws of some years, even ones as 1, reckoned outside of this project. */
    private static void checkLucky() {
        lucky("p0,3,99,1;", 0, 10, "011000000110010101100");
        lucky("p0,0,99,0;p0,3,99,1;z7;", 1, 10, "101100000000110101011");
        lucky("p0,0,99,0;p0,0,99,0;p0,0,99,0;p0,0,99,0;p0,0,99,0;p0,9,99,1;z99;", 5, 10, "001000111110011010101");
        lucky("p0,0,99,0;p0,0,99,0;p60,4,99,1;z31;", 2, 130, "000000001001010110001");
    }

    private static void lucky(String text, int i, int from, String draws) {
        WillsReadFirst x = Checks.laid(text);
        int gain = x.person(i, 1);
        for (int n = 0; n < draws.length(); n++) {
            int more = x.coins(i, from + n) - x.coins(i, from + n - 1);
            CHECKS.due(text + " gain in year " + (from + n), more, draws.charAt(n) == '1' ? 2 * gain : 0);
        }
    }

    private static void checkHavingAge() {
        WillsReadFirst x = Checks.laid("p0,9,99,0;p0,0,99,0;w0,1,9;");
        CHECKS.due("dies(0), not under 18", x.dies(0), 18);
        CHECKS.due("coins(0, 17)", x.coins(0, 17), 72);
        CHECKS.due("coins(0, 18)", x.coins(0, 18), 0);
        CHECKS.due("having()", x.having(), 1);
        CHECKS.due("brought(0)", x.brought(0), 9);
        CHECKS.due("coins(1, 18), the rest is lost", x.coins(1, 18), 9);
        CHECKS.due("inherited(1)", x.inherited(1), 9);
        CHECKS.due("inherited(0)", x.inherited(0), 0);
        WillsReadFirst late = Checks.laid("p60,9,99,0;p60,0,99,0;w0,1,9;");
        CHECKS.due("dies(0) of one born late", late.dies(0), 78);
    }

    private static void checkHavingNeedsAll() {
        WillsReadFirst x = Checks.laid("p0,1,99,0;p0,0,99,0;w0,1,20;w0,1,5;");
        CHECKS.due("dies(0), having exactly as much", x.dies(0), 34);
        CHECKS.due("coins(0, 33)", x.coins(0, 33), 24);
        CHECKS.due("coins(1, 34)", x.coins(1, 34), 25);
        CHECKS.due("brought(0)", x.brought(0), 20);
        CHECKS.due("brought(1)", x.brought(1), 5);
        WillsReadFirst one = Checks.laid("p0,0,50,0;p0,0,99,0;w0,1,1;g0,1;");
        CHECKS.due("dies(0), leaving one coin", one.dies(0), 18);
        CHECKS.due("having(), leaving one coin", one.having(), 1);
        WillsReadFirst nothing = Checks.laid("p0,9,50,0;");
        CHECKS.due("dies(0), leaving nothing", nothing.dies(0), 50);
        CHECKS.due("having(), leaving nothing", nothing.having(), 0);
    }

    private static void checkLimit() {
        WillsReadFirst x = Checks.laid("p7,0,20,0;p0,0,99,0;w0,1,5;");
        CHECKS.due("dies(0), by the limit", x.dies(0), 27);
        CHECKS.due("dies(1), by the limit", x.dies(1), 99);
        CHECKS.due("having()", x.having(), 0);
        CHECKS.due("brought(0)", x.brought(0), 0);
        CHECKS.due("first()", x.first(), 0);
    }

    private static void checkHavingOnTheLastTurn() {
        WillsReadFirst has = Checks.laid("p0,1,20,0;p0,0,99,0;w0,1,11;");
        CHECKS.due("having(), met in the year of the limit", has.having(), 1);
        CHECKS.due("dies(0)", has.dies(0), 20);
        WillsReadFirst lacks = Checks.laid("p0,1,20,0;p0,0,99,0;w0,1,12;");
        CHECKS.due("having(), one coin short", lacks.having(), 0);
        CHECKS.due("dies(0)", lacks.dies(0), 20);
        CHECKS.due("brought(0), as far as the coins go", lacks.brought(0), 11);
    }

    private static void checkNoDeathByTheLastYear() {
        WillsReadFirst x = Checks.laid("p60,0,90,0;p60,0,91,0;p60,1,99,0;p60,1,99,0;w2,0,81;w3,1,82;");
        CHECKS.due("dies(0), in the last year", x.dies(0), 150);
        CHECKS.due("dies(1), not by then", x.dies(1), -4);
        CHECKS.due("dies(2), having it in the last year", x.dies(2), 150);
        CHECKS.due("dies(3), having it a year too late", x.dies(3), -4);
        CHECKS.due("having()", x.having(), 4);
        CHECKS.due("coins(3, 150)", x.coins(3, 150), 81);
        CHECKS.due("first()", x.first(), 0);
    }

    private static void checkPaysAsFarAsCoinsGo() {
        WillsReadFirst x = Checks.laid("p0,1,20,0;p0,0,99,0;p0,0,99,0;p0,0,99,0;w0,1,5;w0,2,9;w0,3,1;");
        CHECKS.due("dies(0)", x.dies(0), 20);
        CHECKS.due("brought(0)", x.brought(0), 5);
        CHECKS.due("brought(1), in part", x.brought(1), 6);
        CHECKS.due("brought(2), nothing is left", x.brought(2), 0);
        CHECKS.due("coins(2, 20)", x.coins(2, 20), 6);
        CHECKS.due("coins(0, 20)", x.coins(0, 20), 0);
    }

    private static void checkTurnsInOneYear() {
        WillsReadFirst down = Checks.laid("p0,1,20,0;p0,0,99,0;p0,0,99,0;w0,1,11;w1,2,11;");
        CHECKS.due("dies(1), whose turn is yet to come", down.dies(1), 20);
        CHECKS.due("coins(2, 20)", down.coins(2, 20), 11);
        CHECKS.due("having()", down.having(), 3);
        WillsReadFirst up = Checks.laid("p0,0,99,0;p0,0,99,0;p0,1,20,0;w2,1,11;w1,0,11;");
        CHECKS.due("dies(1), whose turn was before", up.dies(1), 21);
        CHECKS.due("coins(1, 20)", up.coins(1, 20), 11);
        CHECKS.due("coins(0, 20)", up.coins(0, 20), 0);
        CHECKS.due("coins(0, 21)", up.coins(0, 21), 11);
        WillsReadFirst child = Checks.laid("p0,1,20,0;p15,0,99,0;p0,0,99,0;w0,1,11;w1,2,11;");
        CHECKS.due("dies(1), a child when it comes", child.dies(1), 33);
    }

    private static void checkLostToTheDeadAndUnborn() {
        WillsReadFirst x = Checks.laid("p0,1,25,0;p0,0,20,0;p26,0,99,0;p0,0,99,0;w0,1,5;w0,2,6;w0,3,9;");
        CHECKS.due("dies(0)", x.dies(0), 25);
        CHECKS.due("brought(0), to the dead", x.brought(0), 0);
        CHECKS.due("brought(1), to the unborn", x.brought(1), 0);
        CHECKS.due("brought(2), what is left for the last", x.brought(2), 5);
        CHECKS.due("inherited(1)", x.inherited(1), 0);
        CHECKS.due("inherited(2)", x.inherited(2), 0);
        CHECKS.due("inherited(3)", x.inherited(3), 5);
        CHECKS.due("coins(1, 25)", x.coins(1, 25), 0);
        CHECKS.due("coins(2, 30)", x.coins(2, 30), 0);
        WillsReadFirst born = Checks.laid("p0,1,25,0;p25,0,99,0;w0,1,16;");
        CHECKS.due("brought(0), to one born in this year", born.brought(0), 16);
        WillsReadFirst both = Checks.laid("p0,0,20,0;p0,1,20,0;w1,0,11;");
        CHECKS.due("brought(0), to one dead since this year", both.brought(0), 0);
        WillsReadFirst none = Checks.laid("p0,9,99,0;p5,9,99,0;p50,0,99,0;w0,1,9;w0,2,9;");
        CHECKS.due("having(), lost ones count too", none.having(), 1);
        CHECKS.due("brought(1), lost", none.brought(1), 0);
    }

    private static void checkSeveralBequests() {
        WillsReadFirst x = Checks.laid("p0,9,99,0;p0,9,99,0;p0,0,99,0;w0,2,9;w1,2,20;w0,2,1;");
        CHECKS.due("inherited(2), of two", x.inherited(2), 30);
        CHECKS.due("brought(0)", x.brought(0), 9);
        CHECKS.due("brought(1)", x.brought(1), 20);
        CHECKS.due("brought(2)", x.brought(2), 1);
        CHECKS.due("coins(2, 98)", x.coins(2, 98), 30);
        CHECKS.due("coins(2, 99)", x.coins(2, 99), 0);
    }

    private static void checkFirst() {
        CHECKS.due("first(), of several the lowest", Checks.laid("p0,0,30,0;p2,0,20,0;p0,0,22,0;").first(), 1);
        CHECKS.due("first(), by years", Checks.laid("p0,0,30,0;p3,0,20,0;p0,0,22,0;").first(), 2);
        CHECKS.due("first(), in the last year", Checks.laid("p60,0,91,0;p60,0,90,0;").first(), 1);
        CHECKS.due("first(), not who dies having it", Checks.laid("p0,9,40,0;p0,0,60,0;w0,1,9;").first(), 1);
        CHECKS.due("first(), none", Checks.laid("p60,0,99,0;p0,9,40,0;w1,0,9;").first(), -4);
    }

    private static void checkLongest() {
        longest("p0,0,30,0;p9,0,40,0;p3,0,40,0;", 1, 40);
        longest("p60,0,99,0;p0,0,89,0;", 0, 90);
        longest("p60,0,99,0;p0,0,90,0;", 0, 90);
        longest("p0,0,90,0;p60,0,99,0;", 0, 90);
        longest("p60,0,99,0;p0,0,91,0;", 1, 91);
        longest("p52,0,99,0;", 0, 98);
        longest("p0,9,99,0;p0,0,20,0;w0,1,9;", 1, 20);
        WillsReadFirst x = new WillsReadFirst();
        int[] wrong = {-1, 2, Integer.MAX_VALUE, Integer.MIN_VALUE};
        for (int what : wrong) {
            CHECKS.due("longest(" + what + ")", x.longest(what), -1);
        }
    }

    private static void longest(String text, int who, int age) {
        WillsReadFirst x = Checks.laid(text);
        CHECKS.due("longest(0) of " + text, x.longest(0), who);
        CHECKS.due("longest(1) of " + text, x.longest(1), age);
    }

    private static void checkAnswersFollowChanges() {
        WillsReadFirst x = Checks.laid("p0,1,99,0;p0,0,99,0;w0,1,20;");
        CHECKS.due("dies(0)", x.dies(0), 29);
        x.help(0, 3, 5);
        CHECKS.due("dies(0) behind help", x.dies(0), 24);
        x.keep();
        x.reword(0, 6);
        CHECKS.due("dies(0) behind reword", x.dies(0), 18);
        x.undo();
        CHECKS.due("dies(0) behind undo", x.dies(0), 24);
        x.reword(0, 7);
        CHECKS.due("brought(0) behind another reword", x.brought(0), 7);
        x.back();
        CHECKS.due("brought(0) behind back", x.brought(0), 20);
        x.wipe();
        Checks.write(x, "p1,0,20,0;");
        x.lay();
        CHECKS.due("dies(0) behind lay", x.dies(0), 21);
    }

    private static void checkNothingStaysOfEarlierYears() {
        WillsReadFirst x = Checks.laid("p60,1,99,0;p0,1,30,0;w1,0,20;w0,1,99;");
        CHECKS.due("coins(0, 150)", x.coins(0, 150), 81);
        CHECKS.due("dies(0)", x.dies(0), -4);
        x.help(0, 59, 9);
        CHECKS.due("coins(0, 59), unborn", x.coins(0, 59), 0);
        CHECKS.due("coins(0, 150) behind help", x.coins(0, 150), 81);
        CHECKS.due("brought(0), to the unborn", x.brought(0), 0);
        CHECKS.due("inherited(0)", x.inherited(0), 0);
        WillsReadFirst y = Checks.laid("p0,1,30,0;p0,0,99,0;p0,0,99,0;w0,1,20;w0,2,1;");
        CHECKS.due("brought(0)", y.brought(0), 20);
        CHECKS.due("brought(1)", y.brought(1), 1);
        y.reword(0, 99);
        CHECKS.due("brought(0) behind reword", y.brought(0), 21);
        CHECKS.due("brought(1) behind reword", y.brought(1), 0);
        CHECKS.due("inherited(2) behind reword", y.inherited(2), 0);
        CHECKS.due("having() behind reword", y.having(), 0);
    }

    private static void checkWrongNumbers() {
        WillsReadFirst x = new WillsReadFirst();
        int[] people = {-1, 4, 5, 6, Integer.MAX_VALUE, Integer.MIN_VALUE};
        for (int i : people) {
            CHECKS.due("dies(" + i + ")", x.dies(i), -1);
            CHECKS.due("inherited(" + i + ")", x.inherited(i), -1);
            CHECKS.due("coins(" + i + ", 0)", x.coins(i, 0), -1);
        }
        int[] bequests = {-1, 5, 8, 9, Integer.MAX_VALUE, Integer.MIN_VALUE};
        for (int k : bequests) {
            CHECKS.due("brought(" + k + ")", x.brought(k), -1);
        }
        int[] years = {-1, 151, Integer.MAX_VALUE, Integer.MIN_VALUE};
        for (int year : years) {
            CHECKS.due("coins(0, " + year + ")", x.coins(0, year), -1);
        }
        CHECKS.due("coins(0, 150)", x.coins(0, 150), 0);
        CHECKS.due("coins(0, 0)", x.coins(0, 0), 0);
    }
}
