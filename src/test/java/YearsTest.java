import java.math.BigInteger;

/** Promises 12 to 16: dies, having, coins, brought, inherited; worlds reckoned by hand. */
public final class YearsTest {
    private static final Checks CHECKS = new Checks("YearsTest");

    public static void main(String[] args) {
        yearsAre0To150();
        birth();
        oneStepBehindTheOther();
        gainsFromTen();
        plain();
        lucky();
        draws();
        slow();
        late();
        eighteenYears();
        asMuchAsTogether();
        leavesAnything();
        limit();
        havingAheadOfLimit();
        lowestNumberFirst();
        paysInOrder();
        toWhoLives();
        toTheDeadAndUnborn();
        restIsLost();
        deaths();
        having();
        coins();
        brought();
        inherited();
        answersFollowChanges();
        nothingStaysOfEarlierYears();
        CHECKS.finish();
    }

    private static void coins(String text, int i, int[][] yearsAndCoins) {
        WillsReadFirst x = Checks.laid(text);
        for (int[] pair : yearsAndCoins) {
            CHECKS.due(text + " coins(" + i + ", " + pair[0] + ")", x.coins(i, pair[0]), pair[1]);
        }
    }

    private static void yearsAre0To150() {
        CHECKS.promise(14, "Years are 0 to 150.");
        coins("p0,0,99,0;g0,7;", 0, new int[][] {{0, 7}, {98, 7}, {99, 0}, {150, 0}});
        coins("p60,1,99,0;g0,7;", 0, new int[][] {{0, 0}, {59, 0}, {60, 7}, {149, 87}, {150, 88}});
        CHECKS.promise(12, "Years are 0 to 150.");
        WillsReadFirst x = Checks.laid("p60,0,90,0;p60,0,91,0;p60,1,99,0;p60,1,99,0;w2,0,81;w3,1,82;");
        CHECKS.due("dies(0), by the limit in the last year", x.dies(0), 150);
        CHECKS.due("dies(1), by the limit a year too late", x.dies(1), -4);
        CHECKS.due("dies(2), having it in the last year", x.dies(2), 150);
        CHECKS.due("dies(3), having it a year too late", x.dies(3), -4);
        CHECKS.due("coins(3, 150)", x.coins(3, 150), 81);
    }

    private static void birth() {
        CHECKS.promise(14, "1 PERSONS of this year of birth are born, with their GIFT.");
        coins("p3,7,99,0;g0,9;", 0, new int[][] {{2, 0}, {3, 9}, {12, 9}, {13, 16}});
        coins("p3,7,99,0;", 0, new int[][] {{2, 0}, {3, 0}, {12, 0}});
        coins("p0,0,99,0;p60,0,99,0;g1,99;", 1, new int[][] {{0, 0}, {59, 0}, {60, 99}, {150, 99}});
        coins("p0,0,99,0;p60,0,99,0;g1,99;", 0, new int[][] {{0, 0}, {60, 0}, {98, 0}});
    }

    /** What a step brings counts in all the steps behind it of the same year, and in none ahead of it. */
    private static void oneStepBehindTheOther() {
        CHECKS.promise(12, "In a year, one step behind the other:");
        WillsReadFirst born = Checks.laid("p0,1,25,0;p25,0,99,0;w0,1,16;");
        CHECKS.due("brought(0), to one born in this year", born.brought(0), 16);
        WillsReadFirst helped = Checks.laid("p9,0,99,0;");
        helped.help(0, 9, 5);
        CHECKS.due("coins(0, 9), help in the year of birth", helped.coins(0, 9), 5);
        WillsReadFirst gains = Checks.laid("p0,1,20,0;p0,0,99,0;w0,1,11;");
        CHECKS.due("having(), by what he gains in the year of the limit", gains.having(), 1);
        CHECKS.due("brought(0)", gains.brought(0), 11);
        WillsReadFirst helpGains = Checks.laid("p0,1,20,0;p0,0,99,0;w0,1,12;");
        helpGains.help(0, 20, 1);
        CHECKS.due("having(), by help in the year of the limit", helpGains.having(), 1);
        WillsReadFirst both = Checks.laid("p0,1,20,0;p0,1,99,0;w0,1,11;");
        CHECKS.due("coins(1, 20), gained and inherited", both.coins(1, 20), 22);
    }

    private static void gainsFromTen() {
        CHECKS.promise(14, "3 Who lives and is 10 years old or more gains:");
        coins("p3,7,99,0;", 0, new int[][] {{11, 0}, {12, 0}, {13, 7}, {14, 14}});
        coins("p0,7,99,0;", 0, new int[][] {{9, 0}, {10, 7}});
        coins("p3,8,99,2;", 0, new int[][] {{12, 0}, {13, 4}});
        coins("p60,9,99,0;", 0, new int[][] {{59, 0}, {69, 0}, {70, 9}, {150, 729}});
        coins("p0,9,20,0;", 0, new int[][] {{19, 90}, {20, 0}, {21, 0}, {150, 0}});
        coins("p0,9,20,0;p0,0,99,0;w0,1,99;", 1, new int[][] {{19, 0}, {20, 99}, {21, 99}});
    }

    private static void plain() {
        CHECKS.promise(14, "PLAIN ones W;");
        coins("p3,7,99,0;", 0, new int[][] {{13, 7}, {14, 14}, {101, 623}, {102, 0}});
        coins("p0,0,99,0;", 0, new int[][] {{10, 0}, {98, 0}});
        coins("p0,9,99,0;", 0, new int[][] {{10, 9}, {98, 801}});
        coins("p0,1,99,0;", 0, new int[][] {{10, 1}, {98, 89}});
    }

    /** The draws of some years, even ones as 1, reckoned outside of this project. */
    private static void lucky() {
        CHECKS.promise(14, "LUCKY ones twice W, if DRAW is even, else nothing,");
        lucky("p0,3,99,1;", 0, 10, "011000000110010101100");
        lucky("p0,0,99,0;p0,3,99,1;z7;", 1, 10, "101100000000110101011");
        lucky("p0,0,99,0;p0,0,99,0;p0,0,99,0;p0,0,99,0;p0,0,99,0;p0,9,99,1;z99;", 5, 10, "001000111110011010101");
        lucky("p0,0,99,0;p0,0,99,0;p60,4,99,1;z31;", 2, 130, "000000001001010110001");
        lucky("p0,0,99,1;", 0, 10, "011000000110010101100");
    }

    private static void lucky(String text, int i, int from, String draws) {
        WillsReadFirst x = Checks.laid(text);
        int gain = x.person(i, 1);
        for (int n = 0; n < draws.length(); n++) {
            int more = x.coins(i, from + n) - x.coins(i, from + n - 1);
            CHECKS.due(text + " gain in year " + (from + n), more, draws.charAt(n) == '1' ? 2 * gain : 0);
        }
    }

    /** x times x is beyond an int for every draw, so the due answers are reckoned without a bound. */
    private static void draws() {
        CHECKS.promise(14, "DRAW being ((x times x) modulo 65521) by 8, cut, x 7919 S, 6151 (the year),"
                + " 3571 (the number of the PERSON) and 1 together;");
        int[] seeds = {0, 1, 50, 99};
        for (int seed : seeds) {
            WillsReadFirst x = Checks.laid("p0,5,99,1;p60,1,99,0;p60,1,99,0;p60,1,99,0;p60,1,99,0;p60,5,99,1;z" + seed + ";");
            for (int year = 10; year <= 98; year++) {
                int gain = x.coins(0, year) - x.coins(0, year - 1);
                CHECKS.due("seed " + seed + ", gain of 0 in " + year, gain, drawIsEven(seed, year, 0) ? 10 : 0);
            }
            for (int year = 70; year <= 150; year++) {
                int gain = x.coins(5, year) - x.coins(5, year - 1);
                CHECKS.due("seed " + seed + ", gain of 5 in " + year, gain, drawIsEven(seed, year, 5) ? 10 : 0);
            }
        }
    }

    private static boolean drawIsEven(int seed, int year, int person) {
        BigInteger x = BigInteger.valueOf(7919L * seed + 6151L * year + 3571L * person + 1L);
        return !x.multiply(x).mod(BigInteger.valueOf(65521)).divide(BigInteger.valueOf(8)).testBit(0);
    }

    private static void slow() {
        CHECKS.promise(14, "SLOW ones half of W, cut;");
        coins("p3,7,99,2;", 0, new int[][] {{12, 0}, {13, 3}, {14, 6}, {33, 63}});
        coins("p3,1,99,2;", 0, new int[][] {{13, 0}, {101, 0}});
        coins("p3,0,99,2;", 0, new int[][] {{13, 0}, {101, 0}});
        coins("p3,8,99,2;", 0, new int[][] {{13, 4}, {14, 8}});
        coins("p3,9,99,2;", 0, new int[][] {{13, 4}, {14, 8}});
        coins("p3,2,99,2;", 0, new int[][] {{13, 1}});
    }

    private static void late() {
        CHECKS.promise(14, "LATE ones W times 2 from 30 years on, else nothing.");
        coins("p3,7,99,3;", 0, new int[][] {{13, 0}, {31, 0}, {32, 0}, {33, 14}, {34, 28}, {101, 14 * 69}});
        coins("p0,9,99,3;g0,4;", 0, new int[][] {{29, 4}, {30, 22}});
        coins("p0,0,99,3;", 0, new int[][] {{30, 0}, {98, 0}});
    }

    private static void eighteenYears() {
        CHECKS.promise(12, "4 PERSONS, 0 first, who live, are 18 years old or more");
        WillsReadFirst x = Checks.laid("p0,9,99,0;p0,0,99,0;w0,1,9;");
        CHECKS.due("dies(0), not under 18", x.dies(0), 18);
        CHECKS.due("coins(0, 17)", x.coins(0, 17), 72);
        CHECKS.due("coins(0, 18)", x.coins(0, 18), 0);
        WillsReadFirst late = Checks.laid("p60,9,99,0;p60,0,99,0;w0,1,9;");
        CHECKS.due("dies(0) of one born late", late.dies(0), 78);
        WillsReadFirst gift = Checks.laid("p7,0,99,0;p0,0,99,0;w0,1,9;g0,99;");
        CHECKS.due("dies(0) who has it at birth", gift.dies(0), 25);
        WillsReadFirst child = Checks.laid("p0,1,20,0;p15,0,99,0;p0,0,99,0;w0,1,11;w1,2,11;");
        CHECKS.due("dies(1), a child when it comes", child.dies(1), 33);
        WillsReadFirst grown = Checks.laid("p0,1,20,0;p2,0,99,0;p0,0,99,0;w0,1,11;w1,2,11;");
        CHECKS.due("dies(1), 18 when it comes", grown.dies(1), 20);
        WillsReadFirst almost = Checks.laid("p0,1,20,0;p3,0,99,0;p0,0,99,0;w0,1,11;w1,2,11;");
        CHECKS.due("dies(1), 17 when it comes", almost.dies(1), 21);
    }

    private static void asMuchAsTogether() {
        CHECKS.promise(12, "and have as much as their BEQUESTS are together");
        WillsReadFirst x = Checks.laid("p0,1,99,0;p0,0,99,0;w0,1,20;w0,1,5;");
        CHECKS.due("dies(0), having exactly as much", x.dies(0), 34);
        CHECKS.due("coins(0, 33), one less", x.coins(0, 33), 24);
        CHECKS.due("coins(1, 34)", x.coins(1, 34), 25);
        WillsReadFirst more = Checks.laid("p0,7,99,0;p0,0,99,0;w0,1,99;");
        CHECKS.due("dies(0), having more", more.dies(0), 24);
        WillsReadFirst most = Checks.laid("p0,9,99,0;p0,0,99,0;" + "w0,1,99;".repeat(9) + "g0,99;");
        CHECKS.due("dies(0), leaving 891", most.dies(0), 97);
        CHECKS.due("inherited(1), of 891", most.inherited(1), 891);
        WillsReadFirst short1 = Checks.laid("p0,9,99,0;p0,0,99,0;" + "w0,1,99;".repeat(9) + "g0,89;");
        CHECKS.due("having(), 890 of 891 a year ahead of the limit", short1.having(), 1);
        CHECKS.due("dies(0), 890 of 891 a year ahead of the limit", short1.dies(0), 99);
    }

    private static void leavesAnything() {
        CHECKS.promise(12, "(and leave anything)");
        WillsReadFirst nothing = Checks.laid("p0,9,50,0;");
        CHECKS.due("dies(0), leaving nothing", nothing.dies(0), 50);
        CHECKS.due("having(), leaving nothing", nothing.having(), 0);
        WillsReadFirst poor = Checks.laid("p0,0,50,0;p0,0,60,0;w1,0,5;");
        CHECKS.due("dies(0), having and leaving nothing", poor.dies(0), 50);
        CHECKS.due("having(), having and leaving nothing", poor.having(), 0);
        WillsReadFirst one = Checks.laid("p0,0,50,0;p0,0,99,0;w0,1,1;g0,1;");
        CHECKS.due("dies(0), leaving one coin", one.dies(0), 18);
        CHECKS.due("having(), leaving one coin", one.having(), 1);
    }

    private static void limit() {
        CHECKS.promise(12, "die, HAVING it; else who is as old as his LIMIT, or older, dies without.");
        WillsReadFirst x = Checks.laid("p7,0,20,0;p0,0,99,0;w0,1,5;");
        CHECKS.due("dies(0), by the least limit", x.dies(0), 27);
        CHECKS.due("dies(1), by the most limit", x.dies(1), 99);
        CHECKS.due("having()", x.having(), 0);
        CHECKS.due("brought(0)", x.brought(0), 0);
        coins("p7,1,20,0;", 0, new int[][] {{26, 10}, {27, 0}});
    }

    private static void havingAheadOfLimit() {
        CHECKS.promise(13, "die, HAVING it; else who is as old as his LIMIT, or older, dies without.");
        WillsReadFirst has = Checks.laid("p0,1,20,0;p0,0,99,0;w0,1,11;");
        CHECKS.due("having(), met in the year of the limit", has.having(), 1);
        CHECKS.due("dies(0)", has.dies(0), 20);
        WillsReadFirst lacks = Checks.laid("p0,1,20,0;p0,0,99,0;w0,1,12;");
        CHECKS.due("having(), one coin short", lacks.having(), 0);
        CHECKS.due("dies(0), one coin short", lacks.dies(0), 20);
        CHECKS.due("brought(0), as far as the coins go", lacks.brought(0), 11);
    }

    private static void lowestNumberFirst() {
        CHECKS.promise(12, "4 PERSONS, 0 first, who live,");
        WillsReadFirst up = Checks.laid("p0,0,99,0;p0,0,99,0;p0,1,20,0;w2,1,11;w1,0,11;");
        CHECKS.due("dies(1), whose turn was before", up.dies(1), 21);
        CHECKS.due("coins(1, 20)", up.coins(1, 20), 11);
        CHECKS.due("coins(0, 20)", up.coins(0, 20), 0);
        CHECKS.due("coins(0, 21)", up.coins(0, 21), 11);
        WillsReadFirst both = Checks.laid("p0,0,20,0;p0,1,20,0;w1,0,11;");
        CHECKS.due("brought(0), to one dead since his turn", both.brought(0), 0);
        WillsReadFirst down = Checks.laid("p0,1,20,0;p0,0,20,0;w0,1,11;w1,0,11;");
        CHECKS.due("dies(1), in the same year", down.dies(1), 20);
        CHECKS.due("having(), by what came ahead of his turn", down.having(), 3);
        CHECKS.due("brought(1), the first one is dead", down.brought(1), 0);
    }

    private static void paysInOrder() {
        CHECKS.promise(15, "Who dies pays his BEQUESTS, in order, as far as his coins go,");
        WillsReadFirst x = Checks.laid("p0,1,20,0;p0,0,99,0;p0,0,99,0;p0,0,99,0;w0,1,5;w0,2,9;w0,3,1;");
        CHECKS.due("dies(0)", x.dies(0), 20);
        CHECKS.due("brought(0), in full", x.brought(0), 5);
        CHECKS.due("brought(1), in part", x.brought(1), 6);
        CHECKS.due("brought(2), nothing is left", x.brought(2), 0);
        CHECKS.due("coins(2, 20)", x.coins(2, 20), 6);
        CHECKS.due("coins(3, 20)", x.coins(3, 20), 0);
        CHECKS.due("coins(0, 20)", x.coins(0, 20), 0);
        WillsReadFirst just = Checks.laid("p0,1,20,0;p0,0,99,0;p0,0,99,0;p0,0,99,0;w0,3,5;w0,2,6;w0,1,1;");
        CHECKS.due("brought(1), just in full", just.brought(1), 6);
        CHECKS.due("brought(2), not one coin is left", just.brought(2), 0);
        WillsReadFirst mixed = Checks.laid("p0,0,99,0;p0,1,20,0;p0,1,20,0;w2,0,8;w1,0,7;w2,0,6;w1,0,5;");
        int[] brought = {8, 7, 3, 4};
        for (int k = 0; k < brought.length; k++) {
            CHECKS.due("brought(" + k + ") of two who pay", mixed.brought(k), brought[k]);
        }
    }

    private static void toWhoLives() {
        CHECKS.promise(15, "each to whom it goes, if that one lives then (also one whose turn in this year is yet to come);");
        WillsReadFirst down = Checks.laid("p0,1,20,0;p0,0,99,0;p0,0,99,0;w0,1,11;w1,2,11;");
        CHECKS.due("brought(0), whose turn is yet to come", down.brought(0), 11);
        CHECKS.due("dies(1), in this year", down.dies(1), 20);
        CHECKS.due("brought(1), on in this year", down.brought(1), 11);
        CHECKS.due("coins(2, 20)", down.coins(2, 20), 11);
        WillsReadFirst limit = Checks.laid("p0,1,20,0;p0,0,20,0;w0,1,11;");
        CHECKS.due("brought(0), who dies of his limit in this year", limit.brought(0), 11);
        CHECKS.due("inherited(1), who dies of his limit in this year", limit.inherited(1), 11);
        CHECKS.due("coins(1, 20), dead at the end", limit.coins(1, 20), 0);
        WillsReadFirst chain = Checks.laid("p0,1,20,0;p0,0,99,0;p0,0,99,0;p0,0,99,0;p0,0,99,0;p0,0,99,0;"
                + "w0,1,11;w1,2,11;w2,3,11;w3,4,11;w4,5,11;");
        CHECKS.due("having(), five in one year", chain.having(), 31);
        CHECKS.due("coins(5, 20)", chain.coins(5, 20), 11);
    }

    private static void toTheDeadAndUnborn() {
        CHECKS.promise(15, "what would go to the dead or unborn goes all the same, and is lost;");
        WillsReadFirst x = Checks.laid("p0,1,25,0;p0,0,20,0;p26,0,99,0;p0,0,99,0;w0,1,5;w0,2,6;w0,3,9;");
        CHECKS.due("dies(0)", x.dies(0), 25);
        CHECKS.due("brought(0), to the dead", x.brought(0), 0);
        CHECKS.due("brought(1), to the unborn", x.brought(1), 0);
        CHECKS.due("brought(2), what is left for the last", x.brought(2), 5);
        CHECKS.due("inherited(1)", x.inherited(1), 0);
        CHECKS.due("inherited(2)", x.inherited(2), 0);
        CHECKS.due("inherited(3)", x.inherited(3), 5);
        CHECKS.due("coins(1, 25)", x.coins(1, 25), 0);
        CHECKS.due("coins(2, 30), it does not wait for him", x.coins(2, 30), 0);
        WillsReadFirst none = Checks.laid("p0,9,99,0;p0,0,20,0;p50,0,99,0;w0,1,90;w0,2,90;");
        CHECKS.due("having(), lost ones count too", none.having(), 1);
        CHECKS.due("dies(0)", none.dies(0), 29);
        CHECKS.due("brought(0), lost", none.brought(0), 0);
        CHECKS.due("brought(1), lost", none.brought(1), 0);
        WillsReadFirst gift = Checks.laid("p0,1,20,0;p21,0,99,0;w0,1,11;g1,3;");
        CHECKS.due("coins(1, 21), the gift alone", gift.coins(1, 21), 3);
    }

    private static void restIsLost() {
        CHECKS.promise(14, "so is what is left.");
        WillsReadFirst x = Checks.laid("p0,9,99,0;p0,0,99,0;w0,1,9;");
        CHECKS.due("coins(0, 17)", x.coins(0, 17), 72);
        CHECKS.due("coins(1, 18), no more than he was left", x.coins(1, 18), 9);
        CHECKS.due("coins(0, 18), nothing stays", x.coins(0, 18), 0);
        WillsReadFirst nobody = Checks.laid("p0,9,20,0;p0,0,99,0;");
        CHECKS.due("coins(1, 20), of who leaves nothing", nobody.coins(1, 20), 0);
        CHECKS.due("coins(0, 20)", nobody.coins(0, 20), 0);
    }

    private static void deaths() {
        CHECKS.promise(12, "DIES: the year in which a PERSON does; none (not by 150).");
        WillsReadFirst x = Checks.laid("p0,9,99,0;p60,9,99,0;p60,0,89,0;p51,0,99,0;p52,0,99,0;w0,1,9;");
        int[] died = {18, -4, 149, 150, -4};
        for (int i = 0; i < died.length; i++) {
            CHECKS.due("dies(" + i + ")", x.dies(i), died[i]);
        }
        CHECKS.promise(12, "DIES. NONE; BAD.");
        CHECKS.due("dies(1)", x.dies(1), -4);
        for (int i : Checks.outside(0, 4)) {
            CHECKS.due("dies(" + i + ")", x.dies(i), -1);
        }
    }

    private static void having() {
        CHECKS.promise(13, "HAVING: who dies HAVING it (bits).");
        WillsReadFirst x = Checks.laid("p0,9,99,0;p0,0,30,0;p0,9,99,0;p60,9,99,0;p60,0,99,0;p0,9,99,0;"
                + "w0,1,9;w1,0,99;w2,1,9;w4,0,5;w5,1,9;");
        CHECKS.due("having(), 0, 2 and 5", x.having(), 37);
        CHECKS.promise(13, "HAVING, as bits.");
        CHECKS.due("having(), nobody", Checks.laid("p0,9,99,0;").having(), 0);
        String six = "p0,9,99,0;".repeat(6);
        CHECKS.due("having(), all six", Checks.laid(six + "w0,1,9;w1,2,9;w2,3,9;w3,4,9;w4,5,9;w5,0,9;").having(), 63);
        CHECKS.due("having(), the last one alone", Checks.laid(six + "w5,0,9;").having(), 32);
    }

    private static void coins() {
        CHECKS.promise(14, "COINS of a PERSON at the end of a year (of the dead, unborn: 0).");
        coins("p3,7,20,0;g0,9;", 0, new int[][] {{0, 0}, {2, 0}, {3, 9}, {22, 79}, {23, 0}, {24, 0}, {150, 0}});
        coins("p0,1,20,0;p0,0,99,0;w0,1,5;", 1, new int[][] {{17, 0}, {18, 5}, {98, 5}, {99, 0}});
        WillsReadFirst most = Checks.laid("p60,9,99,3;p0,0,99,0;g0,99;");
        CHECKS.due("coins(0, 150), much", most.coins(0, 150), 99 + 18 * 61);
        CHECKS.promise(14, "COINS. BAD.");
        for (int i : Checks.outside(0, 1)) {
            CHECKS.due("coins(" + i + ", 0)", most.coins(i, 0), -1);
        }
        for (int year : Checks.outside(0, 150)) {
            CHECKS.due("coins(0, " + year + ")", most.coins(0, year), -1);
        }
        CHECKS.due("coins(0, 0)", most.coins(0, 0), 0);
        CHECKS.due("coins(1, 150)", most.coins(1, 150), 0);
    }

    private static void brought() {
        CHECKS.promise(15, "BROUGHT: what came by a BEQUEST to whom it goes (not what is lost);");
        WillsReadFirst x = Checks.laid("p0,9,99,0;p0,9,99,0;p0,0,99,0;p60,9,99,0;w0,2,9;w1,2,20;w0,2,1;w0,3,9;w3,2,99;");
        int[] brought = {9, 20, 1, 0, 99};
        for (int k = 0; k < brought.length; k++) {
            CHECKS.due("brought(" + k + ")", x.brought(k), brought[k]);
        }
        WillsReadFirst living = Checks.laid("p60,0,99,0;p60,0,99,0;w0,1,9;g0,8;");
        CHECKS.due("brought(0), of one who does not die", living.brought(0), 0);
        CHECKS.promise(15, "BROUGHT. BAD.");
        for (int k : Checks.outside(0, 4)) {
            CHECKS.due("brought(" + k + ")", x.brought(k), -1);
        }
        CHECKS.due("brought(0), there are none", Checks.laid("p0,9,99,0;").brought(0), -1);
        WillsReadFirst nine = Checks.laid("p0,9,99,0;p0,0,99,0;" + "w0,1,9;".repeat(8) + "w0,1,7;");
        CHECKS.due("brought(8), the last one of nine", nine.brought(8), 7);
        CHECKS.due("brought(9) of nine", nine.brought(9), -1);
    }

    private static void inherited() {
        CHECKS.promise(16, "INHERITED: what a PERSON got by BEQUESTS.");
        WillsReadFirst x = Checks.laid("p0,9,99,0;p0,9,99,0;p0,3,99,0;w0,2,9;w1,2,20;w0,2,1;g2,50;");
        CHECKS.due("inherited(2), of two", x.inherited(2), 30);
        CHECKS.due("inherited(0), of nobody", x.inherited(0), 0);
        CHECKS.due("coins(2, 18), with what he had", x.coins(2, 18), 50 + 27 + 30);
        CHECKS.due("coins(2, 99)", x.coins(2, 99), 0);
        WillsReadFirst on = Checks.laid("p0,1,20,0;p0,0,99,0;p0,0,99,0;w0,1,11;w1,2,11;");
        CHECKS.due("inherited(1), who leaves it on", on.inherited(1), 11);
        CHECKS.promise(16, "INHERITED. BAD.");
        for (int i : Checks.outside(0, 2)) {
            CHECKS.due("inherited(" + i + ")", x.inherited(i), -1);
        }
    }

    private static void answersFollowChanges() {
        CHECKS.promise(12, "DIES.");
        WillsReadFirst x = Checks.laid("p0,1,99,0;p0,0,99,0;w0,1,20;");
        CHECKS.due("dies(0)", x.dies(0), 29);
        x.help(0, 3, 5);
        CHECKS.due("dies(0) behind help", x.dies(0), 24);
        x.keep();
        x.reword(0, 6);
        CHECKS.due("dies(0) behind reword", x.dies(0), 18);
        x.undo();
        CHECKS.due("dies(0) behind undo", x.dies(0), 24);
        x.reword(0, 7);
        CHECKS.due("brought(0) behind another reword", x.brought(0), 7);
        x.back();
        CHECKS.due("brought(0) behind back", x.brought(0), 20);
        x.wipe();
        Checks.write(x, "p1,0,20,0;");
        x.lay();
        CHECKS.due("dies(0) behind lay", x.dies(0), 21);
    }

    private static void nothingStaysOfEarlierYears() {
        CHECKS.promise(14, "COINS.");
        WillsReadFirst x = Checks.laid("p60,1,99,0;p0,1,30,0;w1,0,20;w0,1,99;");
        CHECKS.due("coins(0, 150)", x.coins(0, 150), 81);
        CHECKS.due("dies(0)", x.dies(0), -4);
        x.help(0, 59, 9);
        CHECKS.due("coins(0, 59), unborn", x.coins(0, 59), 0);
        CHECKS.due("coins(0, 150) behind help", x.coins(0, 150), 81);
        CHECKS.due("brought(0), to the unborn", x.brought(0), 0);
        CHECKS.due("inherited(0)", x.inherited(0), 0);
        WillsReadFirst y = Checks.laid("p0,1,30,0;p0,0,99,0;p0,0,99,0;w0,1,20;w0,2,1;");
        CHECKS.due("brought(0)", y.brought(0), 20);
        CHECKS.due("brought(1)", y.brought(1), 1);
        y.reword(0, 99);
        CHECKS.due("brought(0) behind reword", y.brought(0), 21);
        CHECKS.due("brought(1) behind reword", y.brought(1), 0);
        CHECKS.due("inherited(2) behind reword", y.inherited(2), 0);
        CHECKS.due("having() behind reword", y.having(), 0);
        nothingStaysOfWhatWasBrought();
    }

    private static void nothingStaysOfWhatWasBrought() {
        CHECKS.promise(15, "BROUGHT.");
        WillsReadFirst x = Checks.laid("p60,9,99,0;p60,0,99,0;p0,0,20,0;w0,1,90;w0,1,9;");
        CHECKS.due("brought(0)", x.brought(0), 90);
        CHECKS.due("brought(1)", x.brought(1), 9);
        x.pass(0, 2);
        CHECKS.due("brought(0), passed on to one dead", x.brought(0), 0);
        CHECKS.due("brought(1) behind pass", x.brought(1), 9);
        x.pass(1, 2);
        CHECKS.due("brought(1), passed on to one dead", x.brought(1), 0);
        x.undo();
        CHECKS.due("brought(1) behind undo", x.brought(1), 9);
        WillsReadFirst y = Checks.laid("p60,1,99,0;p60,0,99,0;w0,1,81;");
        CHECKS.due("brought(0) in the last year", y.brought(0), 81);
        y.reword(0, 82);
        CHECKS.due("brought(0), nobody dies", y.brought(0), 0);
        CHECKS.due("inherited(1), nobody dies", y.inherited(1), 0);
        CHECKS.due("dies(0), nobody dies", y.dies(0), -4);
    }
}
