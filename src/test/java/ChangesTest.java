/** Promises 8 to 11: reword, pass, help, undo. */
public final class ChangesTest {
    private static final Checks CHECKS = new Checks("ChangesTest");

    public static void main(String[] args) {
        checkReword();
        checkPass();
        checkHelp();
        checkUndo();
        checkUndoOfNothingBecomesAnother();
        checkLastEight();
        checkRefusedAreNoChanges();
        CHECKS.finish();
    }

    private static void checkReword() {
        WillsReadFirst x = new WillsReadFirst();
        CHECKS.due("reword(0, 99)", x.reword(0, 99), 40);
        CHECKS.due("reword(0, 1)", x.reword(0, 1), 99);
        CHECKS.due("reword(0, 1) again", x.reword(0, 1), 1);
        CHECKS.due("bequest(0, 2)", x.bequest(0, 2), 1);
        CHECKS.due("bequest(1, 2)", x.bequest(1, 2), 20);
        CHECKS.due("reword(4, 2)", x.reword(4, 2), 30);
        int[][] wrong = {{5, 1}, {-1, 1}, {0, 0}, {0, 100}, {0, -1}, {Integer.MAX_VALUE, 1}, {Integer.MIN_VALUE, 1},
            {0, Integer.MAX_VALUE}, {0, Integer.MIN_VALUE}};
        for (int[] w : wrong) {
            CHECKS.due("reword(" + w[0] + ", " + w[1] + ")", x.reword(w[0], w[1]), -1);
        }
        CHECKS.due("bequest(0, 2) behind wrong ones", x.bequest(0, 2), 1);
        WillsReadFirst y = Checks.laid("p0,1,99,0;p0,0,99,0;w0,1,20;");
        CHECKS.due("dies(0) ahead of reword", y.dies(0), 29);
        y.reword(0, 30);
        CHECKS.due("dies(0) behind reword", y.dies(0), 39);
    }

    private static void checkPass() {
        WillsReadFirst x = new WillsReadFirst();
        CHECKS.due("pass(0, 3)", x.pass(0, 3), 1);
        CHECKS.due("pass(0, 3) again", x.pass(0, 3), 3);
        CHECKS.due("bequest(0, 1)", x.bequest(0, 1), 3);
        CHECKS.due("bequest(0, 0)", x.bequest(0, 0), 0);
        CHECKS.due("pass(0, 0), to who leaves it", x.pass(0, 0), -2);
        CHECKS.due("pass(4, 3), to who leaves it", x.pass(4, 3), -2);
        int[][] wrong = {{5, 1}, {-1, 1}, {0, 4}, {0, -1}, {0, 6}, {Integer.MAX_VALUE, 0}, {Integer.MIN_VALUE, 0},
            {0, Integer.MAX_VALUE}, {0, Integer.MIN_VALUE}, {-1, 4}};
        for (int[] w : wrong) {
            CHECKS.due("pass(" + w[0] + ", " + w[1] + ")", x.pass(w[0], w[1]), -1);
        }
        CHECKS.due("bequest(0, 1) behind wrong ones", x.bequest(0, 1), 3);
        CHECKS.due("bequest(4, 1) behind a refused one", x.bequest(4, 1), 2);
        WillsReadFirst y = Checks.laid("p0,1,99,0;p0,0,99,0;p0,0,99,0;w0,1,20;");
        CHECKS.due("inherited(1) ahead of pass", y.inherited(1), 20);
        y.pass(0, 2);
        CHECKS.due("inherited(1) behind pass", y.inherited(1), 0);
        CHECKS.due("inherited(2) behind pass", y.inherited(2), 20);
    }

    private static void checkHelp() {
        WillsReadFirst x = Checks.laid("p5,0,99,0;p0,0,20,0;");
        int[][] wrong = {{2, 0, 1}, {-1, 0, 1}, {0, -1, 1}, {0, 151, 1}, {0, 0, 0}, {0, 0, 100}, {0, 0, -1},
            {Integer.MAX_VALUE, 0, 1}, {Integer.MIN_VALUE, 0, 1}, {0, Integer.MAX_VALUE, 1},
            {0, Integer.MIN_VALUE, 1}, {0, 0, Integer.MAX_VALUE}, {0, 0, Integer.MIN_VALUE}};
        for (int[] w : wrong) {
            CHECKS.due("help(" + w[0] + ", " + w[1] + ", " + w[2] + ")", x.help(w[0], w[1], w[2]), -1);
        }
        CHECKS.due("help(0, 4, 50), unborn", x.help(0, 4, 50), 1);
        CHECKS.due("coins(0, 149), help was ahead of birth", x.coins(0, 149), 0);
        CHECKS.due("help(0, 5, 1), in the year of birth", x.help(0, 5, 1), 2);
        CHECKS.due("coins(0, 4)", x.coins(0, 4), 0);
        CHECKS.due("coins(0, 5)", x.coins(0, 5), 1);
        CHECKS.due("help(0, 5, 99), once more in it", x.help(0, 5, 99), 3);
        CHECKS.due("coins(0, 5)", x.coins(0, 5), 100);
        CHECKS.due("help(1, 21, 9), dead", x.help(1, 21, 9), 4);
        CHECKS.due("coins(1, 21)", x.coins(1, 21), 0);
        CHECKS.due("help, a fifth", x.help(0, 6, 1), -3);
        CHECKS.due("help, a fifth that is wrong", x.help(0, 6, 0), -1);
        CHECKS.due("count(2)", x.count(2), 4);
        WillsReadFirst y = Checks.laid("p60,0,99,0;");
        CHECKS.due("help in the last year", y.help(0, 150, 7), 1);
        CHECKS.due("coins(0, 149)", y.coins(0, 149), 0);
        CHECKS.due("coins(0, 150)", y.coins(0, 150), 7);
        CHECKS.due("help in the first year", y.help(0, 0, 7), 2);
        WillsReadFirst z = Checks.laid("p0,0,20,0;p0,0,99,0;w0,1,5;");
        CHECKS.due("having() without help", z.having(), 0);
        z.help(0, 20, 5);
        CHECKS.due("having(), help comes in the year of the limit", z.having(), 1);
    }

    private static void checkUndo() {
        WillsReadFirst x = new WillsReadFirst();
        int dies = x.dies(3);
        CHECKS.due("undo() of nothing", x.undo(), -2);
        x.reword(0, 99);
        x.pass(1, 3);
        x.help(2, 20, 9);
        x.reword(0, 98);
        CHECKS.due("count(4)", x.count(4), 4);
        CHECKS.due("undo() of reword", x.undo(), 3);
        CHECKS.due("bequest(0, 2)", x.bequest(0, 2), 99);
        CHECKS.due("undo() of help", x.undo(), 2);
        CHECKS.due("count(2)", x.count(2), 0);
        CHECKS.due("bequest(1, 1)", x.bequest(1, 1), 3);
        CHECKS.due("undo() of pass", x.undo(), 1);
        CHECKS.due("bequest(1, 1)", x.bequest(1, 1), 2);
        CHECKS.due("undo() of the first reword", x.undo(), 0);
        CHECKS.due("bequest(0, 2)", x.bequest(0, 2), 40);
        CHECKS.due("undo() of nothing more", x.undo(), -2);
        CHECKS.due("dies(3) as ever", x.dies(3), dies);
        checkUndoTakesTheLatestHelp();
    }

    private static void checkUndoTakesTheLatestHelp() {
        WillsReadFirst x = Checks.laid("p0,0,99,0;");
        x.help(0, 1, 5);
        x.help(0, 2, 7);
        CHECKS.due("coins(0, 3)", x.coins(0, 3), 12);
        CHECKS.due("undo() of the second help", x.undo(), 1);
        CHECKS.due("coins(0, 3), the first help stays", x.coins(0, 3), 5);
        CHECKS.due("help again", x.help(0, 3, 50), 2);
        CHECKS.due("coins(0, 3)", x.coins(0, 3), 55);
    }

    private static void checkUndoOfNothingBecomesAnother() {
        WillsReadFirst x = new WillsReadFirst();
        x.reword(0, 50);
        x.reword(0, 50);
        x.pass(0, 1);
        CHECKS.due("count(4), such by which nothing becomes another", x.count(4), 3);
        CHECKS.due("undo()", x.undo(), 2);
        CHECKS.due("undo()", x.undo(), 1);
        CHECKS.due("bequest(0, 2)", x.bequest(0, 2), 50);
        CHECKS.due("undo()", x.undo(), 0);
        CHECKS.due("bequest(0, 2)", x.bequest(0, 2), 40);
    }

    private static void checkLastEight() {
        WillsReadFirst x = new WillsReadFirst();
        for (int n = 1; n <= 11; n++) {
            x.reword(0, n);
            CHECKS.due("count(4) behind change " + n, x.count(4), Math.min(n, 8));
        }
        for (int left = 7; left >= 0; left--) {
            CHECKS.due("undo()", x.undo(), left);
            CHECKS.due("bequest(0, 2) with " + left + " left", x.bequest(0, 2), left + 3);
        }
        CHECKS.due("undo() of a ninth", x.undo(), -2);
        CHECKS.due("bequest(0, 2), the ninth stays", x.bequest(0, 2), 3);
        checkMixedEight();
    }

    private static void checkMixedEight() {
        WillsReadFirst x = new WillsReadFirst();
        x.reword(4, 77);
        x.help(0, 0, 1);
        x.pass(0, 2);
        x.reword(1, 5);
        x.help(1, 7, 2);
        x.pass(2, 0);
        x.reword(3, 6);
        x.help(2, 9, 3);
        x.pass(3, 1);
        for (int left = 7; left >= 0; left--) {
            CHECKS.due("undo() of a mixed one", x.undo(), left);
        }
        CHECKS.due("bequest(4, 2), changed too long ago", x.bequest(4, 2), 77);
        CHECKS.due("count(2)", x.count(2), 0);
        int[][] bequests = {{0, 1, 40}, {0, 2, 20}, {1, 3, 60}, {2, 0, 15}};
        for (int k = 0; k < bequests.length; k++) {
            CHECKS.due("bequest(" + k + ", 1)", x.bequest(k, 1), bequests[k][1]);
            CHECKS.due("bequest(" + k + ", 2)", x.bequest(k, 2), bequests[k][2]);
        }
    }

    private static void checkRefusedAreNoChanges() {
        WillsReadFirst x = new WillsReadFirst();
        x.reword(0, 100);
        x.reword(5, 1);
        x.pass(0, 0);
        x.pass(0, 4);
        x.help(0, 151, 1);
        CHECKS.due("count(4) behind refused ones", x.count(4), 0);
        for (int n = 0; n < 5; n++) {
            x.help(0, n, 1);
        }
        CHECKS.due("count(4), the fifth help was refused", x.count(4), 4);
        CHECKS.due("undo()", x.undo(), 3);
        CHECKS.due("count(2)", x.count(2), 3);
    }
}
