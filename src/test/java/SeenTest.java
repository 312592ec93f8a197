/** Promises 25 to 29: seen, forget, kinds, odds, generations. */
public final class SeenTest {
    private static final Checks CHECKS = new Checks("SeenTest");

    public static void main(String[] args) {
        checkSeen();
        checkForget();
        checkKinds();
        checkKindsWithOthers();
        checkOdds();
        checkOddsOfAllCounts();
        checkGenerations();
        CHECKS.finish();
    }

    private static void checkSeen() {
        WillsReadFirst x = new WillsReadFirst();
        int[][] wrong = {{-1, 0, 0}, {4, 0, 0}, {0, -1, 0}, {0, 151, 0}, {0, 0, -1}, {0, 0, 1000},
            {Integer.MAX_VALUE, 0, 0}, {Integer.MIN_VALUE, 0, 0}, {0, Integer.MAX_VALUE, 0},
            {0, Integer.MIN_VALUE, 0}, {0, 0, Integer.MAX_VALUE}, {0, 0, Integer.MIN_VALUE}};
        for (int[] w : wrong) {
            CHECKS.due("seen(" + w[0] + ", " + w[1] + ", " + w[2] + ")", x.seen(w[0], w[1], w[2]), -1);
        }
        CHECKS.due("count(3) behind wrong ones", x.count(3), 0);
        int[][] right = {{0, 0, 0}, {0, 150, 999}, {3, 0, 999}, {3, 0, 999}, {1, 1, 1}, {1, 1, 2}, {2, 9, 9}, {0, 0, 0}};
        for (int n = 0; n < right.length; n++) {
            int[] r = right[n];
            CHECKS.due("seen(" + r[0] + ", " + r[1] + ", " + r[2] + ")", x.seen(r[0], r[1], r[2]), n + 1);
        }
        CHECKS.due("seen, a ninth", x.seen(0, 0, 0), -3);
        CHECKS.due("seen, a ninth that is wrong", x.seen(0, 0, 1000), -1);
        CHECKS.due("count(3)", x.count(3), 8);
        CHECKS.due("count(4), nothing of this can be undone", x.count(4), 0);
    }

    private static void checkForget() {
        WillsReadFirst x = Checks.laid("p0,3,99,0;");
        CHECKS.due("forget() of nothing", x.forget(), 0);
        x.seen(0, 0, 5);
        x.seen(0, 1, 5);
        CHECKS.due("kinds(0)", x.kinds(0), 0);
        CHECKS.due("forget()", x.forget(), 2);
        CHECKS.due("kinds(0) behind forget", x.kinds(0), 15);
        CHECKS.due("forget() again", x.forget(), 0);
        CHECKS.due("seen behind forget", x.seen(0, 0, 0), 1);
    }

    private static void kinds(String text, int year, int c, int want) {
        WillsReadFirst x = Checks.laid(text);
        x.seen(0, year, c);
        CHECKS.due("kinds(0) of " + text + " with " + c + " in " + year, x.kinds(0), want);
    }

    /** With p0,4 and seed 0 the draws of the years 10, 11, 12 are odd, even, even. */
    private static void checkKinds() {
        kinds("p0,4,99,0;", 9, 0, 15);
        kinds("p0,4,99,0;", 9, 1, 0);
        kinds("p0,4,99,0;", 10, 0, 10);
        kinds("p0,4,99,3;", 10, 4, 1);
        kinds("p0,4,99,1;", 10, 2, 4);
        kinds("p0,4,99,2;", 11, 8, 3);
        kinds("p0,4,99,2;", 30, 8, 8);
        kinds("p0,4,20,2;", 20, 0, 15);
        kinds("p0,0,99,0;", 50, 0, 15);
        WillsReadFirst x = Checks.laid("p0,4,99,0;p0,4,99,0;");
        x.seen(0, 11, 8);
        x.seen(0, 10, 0);
        x.seen(1, 10, 4);
        CHECKS.due("kinds(0), all that was seen", x.kinds(0), 2);
        CHECKS.due("kinds(1), of him alone", x.kinds(1), 1);
        x.seen(0, 12, 12);
        CHECKS.due("kinds(0), none is so", x.kinds(0), 0);
        CHECKS.due("kinds(1) as it was", x.kinds(1), 1);
        int[] wrong = {-1, 2, 6, Integer.MAX_VALUE, Integer.MIN_VALUE};
        for (int i : wrong) {
            CHECKS.due("kinds(" + i + ")", x.kinds(i), -1);
        }
    }

    /** Whoever is asked about draws as who he is, and what comes to him by others counts too. */
    private static void checkKindsWithOthers() {
        WillsReadFirst x = Checks.laid("p0,1,20,0;p0,4,99,0;w0,1,11;");
        x.seen(1, 20, 22 + 11);
        CHECKS.due("kinds(1), SLOW with what he inherits", x.kinds(1), 4);
        x.forget();
        x.seen(1, 20, 44 + 11);
        CHECKS.due("kinds(1), PLAIN with what he inherits", x.kinds(1), 1);
        x.reword(0, 10);
        CHECKS.due("kinds(1) behind reword", x.kinds(1), 0);
        x.help(1, 0, 1);
        CHECKS.due("kinds(1) behind help", x.kinds(1), 1);
    }

    private static void odds(String text, int n, int c, int above, int below) {
        WillsReadFirst x = Checks.laid(text);
        CHECKS.due("odds(0, " + n + ", " + c + ", 0) of " + text, x.odds(0, n, c, 0), above);
        CHECKS.due("odds(0, " + n + ", " + c + ", 1) of " + text, x.odds(0, n, c, 1), below);
    }

    private static void checkOdds() {
        odds("p0,3,99,1;", 0, 0, 1, 1);
        odds("p0,3,99,1;", 0, 1, 0, 1);
        odds("p0,3,99,1;", 1, 6, 1, 2);
        odds("p0,3,99,1;", 1, 7, 0, 1);
        odds("p0,3,99,0;", 2, 6, 3, 4);
        odds("p0,3,99,2;", 2, 7, 1, 4);
        odds("p0,3,99,3;", 10, 0, 1, 1);
        odds("p0,3,99,1;", 10, 1, 1023, 1024);
        odds("p0,3,99,1;", 10, 60, 1, 1024);
        odds("p0,3,99,1;", 10, 61, 0, 1);
        odds("p0,3,99,1;", 10, 30, 319, 512);
        odds("p0,3,99,1;", 10, 31, 193, 512);
        odds("p0,9,99,1;", 10, 180, 1, 1024);
        odds("p0,9,99,1;", 10, 200, 0, 1);
        odds("p0,0,99,1;", 10, 0, 1, 1);
        odds("p0,0,99,1;", 10, 1, 0, 1);
        odds("p0,1,99,1;", 3, 4, 1, 2);
        WillsReadFirst x = new WillsReadFirst();
        int[][] wrong = {{4, 0, 0, 0}, {-1, 0, 0, 0}, {0, -1, 0, 0}, {0, 11, 0, 0}, {0, 0, -1, 0}, {0, 0, 201, 0},
            {0, 0, 0, -1}, {0, 0, 0, 2}, {Integer.MAX_VALUE, 0, 0, 0}, {0, Integer.MAX_VALUE, 0, 0},
            {0, 0, Integer.MIN_VALUE, 0}, {0, 0, 0, Integer.MIN_VALUE}};
        for (int[] w : wrong) {
            CHECKS.due("odds(" + w[0] + ", " + w[1] + ", " + w[2] + ", " + w[3] + ")",
                    x.odds(w[0], w[1], w[2], w[3]), -1);
        }
    }

    /** Every run of luck is tried here, one by one. */
    private static void checkOddsOfAllCounts() {
        WillsReadFirst x = Checks.laid("p0,2,99,0;");
        for (int n = 0; n <= 10; n++) {
            for (int c = 0; c <= 44; c += 3) {
                int runs = 1 << n;
                int lucky = 0;
                for (int run = 0; run < runs; run++) {
                    lucky += 4 * Integer.bitCount(run) >= c ? 1 : 0;
                }
                int most = common(lucky, runs);
                CHECKS.due("odds(0, " + n + ", " + c + ", 0)", x.odds(0, n, c, 0), lucky / most);
                CHECKS.due("odds(0, " + n + ", " + c + ", 1)", x.odds(0, n, c, 1), runs / most);
            }
        }
    }

    private static int common(int one, int other) {
        return other == 0 ? one : common(other, one % other);
    }

    private static void checkGenerations() {
        WillsReadFirst none = Checks.laid("p0,9,40,1;");
        CHECKS.due("generations(3, 0), nobody", none.generations(3, 0), 0);
        CHECKS.due("generations(3, 1), nobody", none.generations(3, 1), 0);
        WillsReadFirst plain = Checks.laid("p0,1,40,0;p0,9,40,0;p0,0,20,0;w0,1,31;w1,0,9;w2,0,5;");
        CHECKS.due("generations(99, 0), the draws are nothing to them", plain.generations(99, 0), 2);
        CHECKS.due("generations(99, 1)", plain.generations(99, 1), 31);
        WillsReadFirst x = Checks.laid("p0,0,99,0;p0,3,22,1;w1,0,24;z31;");
        for (int z = 0; z <= 99; z += 3) {
            WillsReadFirst y = Checks.laid("p0,0,99,0;p0,3,22,1;w1,0,24;z" + z + ";");
            CHECKS.due("generations(" + z + ", 0)", x.generations(z, 0), Integer.bitCount(y.having()));
            CHECKS.due("generations(" + z + ", 1)", x.generations(z, 1), y.having() == 0 ? 0 : y.dies(1));
        }
        int[] wrong = {-1, 100, Integer.MAX_VALUE, Integer.MIN_VALUE};
        for (int z : wrong) {
            CHECKS.due("generations(" + z + ", 0)", x.generations(z, 0), -1);
        }
        int[] whats = {-1, 2, Integer.MAX_VALUE, Integer.MIN_VALUE};
        for (int what : whats) {
            CHECKS.due("generations(0, " + what + ")", x.generations(0, what), -1);
        }
        checkGenerationsByHand();
    }

    /** Seed 7 gives person 1 even draws in the years 10, 12, 13, 22, 23, 25; seed 0 is not asked for this. */
    private static void checkGenerationsByHand() {
        WillsReadFirst x = Checks.laid("p0,0,99,0;p0,3,40,1;w1,0,24;");
        CHECKS.due("generations(7, 0)", x.generations(7, 0), 1);
        CHECKS.due("generations(7, 1)", x.generations(7, 1), 22);
        x.reword(0, 31);
        CHECKS.due("generations(7, 1) behind reword", x.generations(7, 1), 25);
    }
}
