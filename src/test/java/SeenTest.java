/** Promises 25 to 29: seen, forget, kinds, odds, generations. */
public final class SeenTest {
    private static final Checks CHECKS = new Checks("SeenTest");

    public static void main(String[] args) {
        seen();
        eightSeen();
        seenOfWrongNumbers();
        forget();
        kinds();
        kindsOfNothingSeen();
        kindsOfAllSeen();
        kindsAllElseAsItIs();
        kindsOfWrongNumbers();
        odds();
        oddsOf0To10Years();
        oddsOf0To200Coins();
        oddsInLowestTerms();
        oddsWhateverHeIs();
        oddsOfWrongNumbers();
        generations();
        generationsBySeed();
        generationsOfNobody();
        generationsOfWrongNumbers();
        CHECKS.finish();
    }

    private static void seen() {
        CHECKS.promise(25, "SEEN: how many.");
        WillsReadFirst x = new WillsReadFirst();
        int[][] right = {{0, 0, 0}, {0, 150, 999}, {3, 0, 999}, {3, 0, 999}, {1, 1, 1}, {1, 1, 2}, {2, 9, 9}, {0, 0, 0}};
        for (int n = 0; n < right.length; n++) {
            int[] r = right[n];
            CHECKS.due("seen(" + r[0] + ", " + r[1] + ", " + r[2] + ")", x.seen(r[0], r[1], r[2]), n + 1);
            CHECKS.due("count(3)", x.count(3), n + 1);
        }
        CHECKS.due("count(4), it is nothing to be undone", x.count(4), 0);
    }

    private static void eightSeen() {
        CHECKS.promise(25, "SEEN (8 at most) is that a PERSON had c (0 to 999) coins at the end of a year.");
        WillsReadFirst x = Checks.laid("p0,4,99,0;p0,4,99,0;");
        for (int n = 1; n <= 8; n++) {
            CHECKS.due("seen " + n, x.seen(0, 20, 44), n);
        }
        CHECKS.promise(25, "FULL.");
        CHECKS.due("seen, a ninth", x.seen(0, 20, 0), -3);
        CHECKS.due("seen, a ninth of another", x.seen(1, 0, 999), -3);
        CHECKS.due("seen, a ninth of 1000 coins, BAD comes ahead", x.seen(0, 0, 1000), -1);
        CHECKS.due("seen, a ninth of nobody, BAD comes ahead", x.seen(2, 0, 0), -1);
        CHECKS.due("seen, a ninth in no year, BAD comes ahead", x.seen(0, 151, 0), -1);
        CHECKS.due("count(3)", x.count(3), 8);
        CHECKS.due("kinds(0), the ninth is not seen", x.kinds(0), 1);
        CHECKS.due("kinds(1), the ninth is not seen", x.kinds(1), 15);
        CHECKS.due("forget()", x.forget(), 8);
        CHECKS.due("seen behind forget", x.seen(0, 20, 0), 1);
    }

    private static void seenOfWrongNumbers() {
        CHECKS.promise(25, "BAD;");
        WillsReadFirst x = new WillsReadFirst();
        for (int i : Checks.outside(0, 3)) {
            CHECKS.due("seen(" + i + ", 0, 0)", x.seen(i, 0, 0), -1);
        }
        for (int year : Checks.outside(0, 150)) {
            CHECKS.due("seen(0, " + year + ", 0)", x.seen(0, year, 0), -1);
        }
        for (int c : Checks.outside(0, 999)) {
            CHECKS.due("seen(0, 0, " + c + ")", x.seen(0, 0, c), -1);
        }
        CHECKS.due("count(3) behind wrong ones", x.count(3), 0);
    }

    private static void forget() {
        CHECKS.promise(26, "Nothing is SEEN: how many were.");
        WillsReadFirst x = Checks.laid("p0,3,99,0;");
        CHECKS.due("forget() of nothing", x.forget(), 0);
        x.seen(0, 0, 5);
        x.seen(0, 1, 5);
        CHECKS.due("kinds(0)", x.kinds(0), 0);
        CHECKS.due("forget()", x.forget(), 2);
        CHECKS.due("count(3) behind forget", x.count(3), 0);
        CHECKS.due("kinds(0) behind forget", x.kinds(0), 15);
        CHECKS.due("forget() again", x.forget(), 0);
        CHECKS.due("seen behind forget", x.seen(0, 10, 3), 1);
        CHECKS.due("kinds(0) by what was seen since", x.kinds(0), 1);
    }

    private static void kinds(String text, int year, int c, int want) {
        WillsReadFirst x = Checks.laid(text);
        x.seen(0, year, c);
        CHECKS.due("kinds(0) of " + text + " with " + c + " in " + year, x.kinds(0), want);
    }

    /** With p0,4 and seed 0 the draws of the years 10, 11, 12 are odd, even, even. */
    private static void kinds() {
        CHECKS.promise(27, "KINDS of a PERSON: those (bits) by which,");
        kinds("p0,4,99,3;", 10, 4, 1);
        kinds("p0,4,99,2;", 11, 8, 3);
        kinds("p0,4,99,1;", 10, 2, 4);
        kinds("p0,4,99,2;", 30, 8, 8);
        kinds("p0,4,99,0;", 10, 0, 10);
        CHECKS.promise(27, "KINDS, as bits.");
        kinds("p0,4,99,0;", 9, 0, 15);
        kinds("p0,4,20,2;", 20, 0, 15);
        kinds("p0,0,99,0;", 50, 0, 15);
        kinds("p60,4,99,0;", 150, 324, 1);
        kinds("p0,4,99,0;", 9, 1, 0);
    }

    private static void kindsOfNothingSeen() {
        CHECKS.promise(27, "all that was SEEN of him would be so.");
        WillsReadFirst x = new WillsReadFirst();
        CHECKS.due("kinds(0), nothing was seen", x.kinds(0), 15);
        x.seen(1, 0, 999);
        CHECKS.due("kinds(0), nothing was seen of him", x.kinds(0), 15);
        CHECKS.due("kinds(1), it can't be so", x.kinds(1), 0);
    }

    private static void kindsOfAllSeen() {
        CHECKS.promise(27, "all that was SEEN of him would be so.");
        WillsReadFirst x = Checks.laid("p0,4,99,0;p0,4,99,0;");
        x.seen(0, 11, 8);
        CHECKS.due("kinds(0), by the first", x.kinds(0), 3);
        x.seen(0, 10, 0);
        x.seen(1, 10, 4);
        CHECKS.due("kinds(0), by both", x.kinds(0), 2);
        CHECKS.due("kinds(1), by his own alone", x.kinds(1), 1);
        x.seen(0, 12, 12);
        CHECKS.due("kinds(0), none is so", x.kinds(0), 0);
        CHECKS.due("kinds(1) as it was", x.kinds(1), 1);
        WillsReadFirst dead = Checks.laid("p5,4,20,0;");
        dead.seen(0, 4, 0);
        dead.seen(0, 25, 0);
        dead.seen(0, 150, 0);
        CHECKS.due("kinds(0), unborn and dead have 0", dead.kinds(0), 15);
        dead.seen(0, 25, 1);
        CHECKS.due("kinds(0), the dead have nothing", dead.kinds(0), 0);
    }

    /** Whoever is asked about draws as who he is, and what comes to him by others counts too. */
    private static void kindsAllElseAsItIs() {
        CHECKS.promise(27, "by which, all else being as it is, all that was SEEN of him would be so.");
        WillsReadFirst x = Checks.laid("p0,1,20,0;p0,4,99,0;w0,1,11;");
        x.seen(1, 20, 22 + 11);
        CHECKS.due("kinds(1), SLOW with what he inherits", x.kinds(1), 4);
        x.forget();
        x.seen(1, 20, 44 + 11);
        CHECKS.due("kinds(1), PLAIN with what he inherits", x.kinds(1), 1);
        x.reword(0, 10);
        CHECKS.due("kinds(1) behind reword", x.kinds(1), 0);
        x.help(1, 0, 1);
        CHECKS.due("kinds(1) behind help", x.kinds(1), 1);
        CHECKS.due("person(1, 3) behind kinds", x.person(1, 3), 0);
        CHECKS.due("coins(1, 20) behind kinds", x.coins(1, 20), 55);
        WillsReadFirst y = Checks.laid("p0,4,99,0;p0,4,40,0;w1,0,12;z7;");
        y.seen(1, 17, 24);
        CHECKS.due("kinds(1), by three draws of his own", y.kinds(1), 2);
        y.forget();
        y.seen(1, 30, 0);
        CHECKS.due("kinds(1), all but LATE ones die having it", y.kinds(1), 7);
    }

    private static void kindsOfWrongNumbers() {
        CHECKS.promise(27, "BAD.");
        WillsReadFirst x = new WillsReadFirst();
        for (int i : Checks.outside(0, 3)) {
            CHECKS.due("kinds(" + i + ")", x.kinds(i), -1);
        }
    }

    private static void odds(String text, int n, int c, int above, int below) {
        WillsReadFirst x = Checks.laid(text);
        CHECKS.due("odds(0, " + n + ", " + c + ", 0) of " + text, x.odds(0, n, c, 0), above);
        CHECKS.due("odds(0, " + n + ", " + c + ", 1) of " + text, x.odds(0, n, c, 1), below);
    }

    private static void odds() {
        CHECKS.promise(28, "twice W by half each year: how likely he gains c (0 to 200) or more in all,");
        odds("p0,3,99,1;", 1, 6, 1, 2);
        odds("p0,3,99,1;", 1, 7, 0, 1);
        odds("p0,3,99,1;", 2, 6, 3, 4);
        odds("p0,3,99,1;", 2, 7, 1, 4);
        odds("p0,3,99,1;", 2, 12, 1, 4);
        odds("p0,3,99,1;", 2, 13, 0, 1);
        CHECKS.promise(28, "ODDS: above (part = 0), below (1).");
        odds("p0,1,99,1;", 3, 4, 1, 2);
        odds("p0,3,99,1;", 10, 30, 319, 512);
        odds("p0,3,99,1;", 10, 31, 193, 512);
    }

    private static void oddsOf0To10Years() {
        CHECKS.promise(28, "ODDS of n (0 to 10) years");
        odds("p0,3,99,1;", 0, 0, 1, 1);
        odds("p0,3,99,1;", 0, 1, 0, 1);
        odds("p0,3,99,1;", 10, 60, 1, 1024);
        odds("p0,3,99,1;", 10, 61, 0, 1);
        odds("p0,3,99,1;", 9, 54, 1, 512);
    }

    private static void oddsOf0To200Coins() {
        CHECKS.promise(28, "how likely he gains c (0 to 200) or more in all,");
        odds("p0,3,99,1;", 10, 0, 1, 1);
        odds("p0,3,99,1;", 10, 1, 1023, 1024);
        odds("p0,9,99,1;", 10, 180, 1, 1024);
        odds("p0,9,99,1;", 10, 200, 0, 1);
        odds("p0,0,99,1;", 10, 0, 1, 1);
        odds("p0,0,99,1;", 10, 1, 0, 1);
        odds("p0,0,99,1;", 0, 0, 1, 1);
    }

    /** Every run of luck is tried here, one by one. */
    private static void oddsInLowestTerms() {
        CHECKS.promise(28, "in lowest terms.");
        WillsReadFirst x = Checks.laid("p0,2,99,0;");
        for (int n = 0; n <= 10; n++) {
            for (int c = 0; c <= 44; c += 3) {
                int runs = 1 << n;
                int lucky = 0;
                for (int run = 0; run < runs; run++) {
                    lucky += 4 * Integer.bitCount(run) >= c ? 1 : 0;
                }
                int most = common(lucky, runs);
                CHECKS.due("odds(0, " + n + ", " + c + ", 0)", x.odds(0, n, c, 0), lucky / most);
                CHECKS.due("odds(0, " + n + ", " + c + ", 1)", x.odds(0, n, c, 1), runs / most);
            }
        }
    }

    private static int common(int one, int other) {
        return other == 0 ? one : common(other, one % other);
    }

    private static void oddsWhateverHeIs() {
        CHECKS.promise(28, "of a LUCKY one who gains W as a PERSON does (whatever he is):");
        for (int kind = 0; kind < 4; kind++) {
            odds("p0,5,99," + kind + ";", 3, 11, 1, 2);
        }
        WillsReadFirst x = Checks.laid("p0,1,99,0;p0,9,99,3;g1,99;");
        x.help(1, 0, 99);
        CHECKS.due("odds(1, 1, 18, 1), of another", x.odds(1, 1, 18, 1), 2);
        CHECKS.due("odds(1, 1, 19, 0), gift and help are no gain", x.odds(1, 1, 19, 0), 0);
        CHECKS.due("odds(0, 1, 3, 0), of him alone", x.odds(0, 1, 3, 0), 0);
    }

    private static void oddsOfWrongNumbers() {
        CHECKS.promise(28, "BAD.");
        WillsReadFirst x = new WillsReadFirst();
        for (int i : Checks.outside(0, 3)) {
            CHECKS.due("odds(" + i + ", 0, 0, 0)", x.odds(i, 0, 0, 0), -1);
        }
        for (int n : Checks.outside(0, 10)) {
            CHECKS.due("odds(0, " + n + ", 0, 0)", x.odds(0, n, 0, 0), -1);
        }
        for (int c : Checks.outside(0, 200)) {
            CHECKS.due("odds(0, 0, " + c + ", 0)", x.odds(0, 0, c, 0), -1);
        }
        for (int part : Checks.outside(0, 1)) {
            CHECKS.due("odds(0, 0, 0, " + part + ")", x.odds(0, 0, 0, part), -1);
        }
    }

    private static void generations() {
        CHECKS.promise(29, "GENERATIONS: how many (what = 0), the year (1).");
        WillsReadFirst plain = Checks.laid("p0,1,40,0;p0,9,40,0;p0,0,20,0;w0,1,31;w1,0,9;w2,0,5;");
        CHECKS.due("generations(99, 0), the draws are nothing to them", plain.generations(99, 0), 2);
        CHECKS.due("generations(99, 1)", plain.generations(99, 1), 31);
        CHECKS.promise(29, "how many die HAVING it; the year in which the last one of these dies");
        WillsReadFirst without = Checks.laid("p0,9,40,0;p0,0,90,0;w0,1,9;w1,0,99;");
        CHECKS.due("generations(5, 0), one of two", without.generations(5, 0), 1);
        CHECKS.due("generations(5, 1), not the last one of all", without.generations(5, 1), 18);
        WillsReadFirst last = Checks.laid("p60,9,40,0;p60,1,99,0;w0,1,9;w1,0,90;");
        CHECKS.due("generations(5, 1), in the last year", last.generations(5, 1), 150);
        CHECKS.due("generations(5, 0)", last.generations(5, 0), 2);
    }

    private static void generationsBySeed() {
        CHECKS.promise(29, "GENERATIONS by z (0 to 99), in the place of S:");
        WillsReadFirst x = Checks.laid("p0,0,99,0;p0,3,22,1;w1,0,24;z31;");
        for (int z = 0; z <= 99; z += 3) {
            WillsReadFirst y = Checks.laid("p0,0,99,0;p0,3,22,1;w1,0,24;z" + z + ";");
            CHECKS.due("generations(" + z + ", 0)", x.generations(z, 0), Integer.bitCount(y.having()));
            CHECKS.due("generations(" + z + ", 1)", x.generations(z, 1), y.having() == 0 ? 0 : y.dies(1));
        }
        WillsReadFirst kept = Checks.laid("p0,0,99,0;p0,3,22,1;w1,0,24;z31;");
        for (int year = 10; year <= 22; year++) {
            CHECKS.due("coins(1, " + year + ") behind generations", x.coins(1, year), kept.coins(1, year));
        }
        byHand();
    }

    /** Seed 7 gives person 1 even draws in the years 10, 12, 13, 22, 23, 25; what is laid has seed 0. */
    private static void byHand() {
        WillsReadFirst x = Checks.laid("p0,0,99,0;p0,3,40,1;w1,0,24;");
        CHECKS.due("generations(7, 0)", x.generations(7, 0), 1);
        CHECKS.due("generations(7, 1)", x.generations(7, 1), 22);
        x.reword(0, 31);
        CHECKS.due("generations(7, 1) behind reword", x.generations(7, 1), 25);
        x.help(1, 0, 7);
        CHECKS.due("generations(7, 1) behind help", x.generations(7, 1), 22);
    }

    private static void generationsOfNobody() {
        CHECKS.promise(29, "(0: nobody does HAVING it).");
        WillsReadFirst none = Checks.laid("p0,9,40,1;");
        CHECKS.due("generations(3, 0), nobody", none.generations(3, 0), 0);
        CHECKS.due("generations(3, 1), nobody", none.generations(3, 1), 0);
        WillsReadFirst poor = Checks.laid("p0,0,40,1;p0,0,40,0;w0,1,1;");
        CHECKS.due("generations(0, 0), nobody", poor.generations(0, 0), 0);
        CHECKS.due("generations(0, 1), nobody", poor.generations(0, 1), 0);
    }

    private static void generationsOfWrongNumbers() {
        CHECKS.promise(29, "BAD.");
        WillsReadFirst x = new WillsReadFirst();
        for (int z : Checks.outside(0, 99)) {
            CHECKS.due("generations(" + z + ", 0)", x.generations(z, 0), -1);
        }
        for (int what : Checks.outside(0, 1)) {
            CHECKS.due("generations(0, " + what + ")", x.generations(0, what), -1);
        }
        CHECKS.isTrue("generations(0, 0), the least z", x.generations(0, 0) >= 0);
        CHECKS.isTrue("generations(99, 0), the most z", x.generations(99, 0) >= 0);
    }
}
