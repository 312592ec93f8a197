/** Promises 8 to 11: reword, pass, help, undo. */
public final class ChangesTest {
    private static final Checks CHECKS = new Checks("ChangesTest");
    private static final String TWO = "p0,1,99,0;p0,0,99,0;";

    public static void main(String[] args) {
        reword();
        rewordOfWrongNumbers();
        pass();
        passToWhoLeavesIt();
        passOfWrongNumbers();
        helpTold();
        helpComes();
        helpToTheUnbornAndDead();
        fourHelps();
        helpOfWrongNumbers();
        undo();
        undoOfHelp();
        nothingToUndo();
        nothingBecomesAnother();
        lastEight();
        lastEightOfAllSorts();
        refusedAreNoChanges();
        CHECKS.finish();
    }

    private static void reword() {
        CHECKS.promise(8, "A BEQUEST is reworded (n 1 to 99): what N was.");
        WillsReadFirst x = new WillsReadFirst();
        CHECKS.due("reword(0, 99)", x.reword(0, 99), 40);
        CHECKS.due("bequest(0, 2)", x.bequest(0, 2), 99);
        CHECKS.due("reword(0, 1)", x.reword(0, 1), 99);
        CHECKS.due("reword(0, 1) again", x.reword(0, 1), 1);
        CHECKS.due("bequest(0, 2)", x.bequest(0, 2), 1);
        CHECKS.due("bequest(1, 2)", x.bequest(1, 2), 20);
        CHECKS.due("reword(4, 2), the last one", x.reword(4, 2), 30);
        CHECKS.due("bequest(4, 2)", x.bequest(4, 2), 2);
        CHECKS.promise(8, "A BEQUEST can be reworded (another N)");
        CHECKS.due("bequest(0, 0), as it was", x.bequest(0, 0), 0);
        CHECKS.due("bequest(0, 1), as it was", x.bequest(0, 1), 1);
        WillsReadFirst y = Checks.laid(TWO + "w0,1,20;");
        CHECKS.due("dies(0) ahead of reword", y.dies(0), 29);
        y.reword(0, 30);
        CHECKS.due("dies(0) behind reword", y.dies(0), 39);
    }

    private static void rewordOfWrongNumbers() {
        CHECKS.promise(8, "BAD.");
        WillsReadFirst x = new WillsReadFirst();
        for (int k : Checks.outside(0, 4)) {
            CHECKS.due("reword(" + k + ", 1)", x.reword(k, 1), -1);
        }
        for (int n : Checks.outside(1, 99)) {
            CHECKS.due("reword(0, " + n + ")", x.reword(0, n), -1);
        }
        CHECKS.due("reword(5, 0)", x.reword(5, 0), -1);
        CHECKS.due("bequest(0, 2) behind wrong ones", x.bequest(0, 2), 40);
        CHECKS.due("count(4) behind wrong ones", x.count(4), 0);
        CHECKS.due("reword(0, 5), there are no bequests", Checks.laid(TWO).reword(0, 5), -1);
    }

    private static void pass() {
        CHECKS.promise(9, "A CLAIM is passed on: to whom it went.");
        WillsReadFirst x = new WillsReadFirst();
        CHECKS.due("pass(0, 3)", x.pass(0, 3), 1);
        CHECKS.due("bequest(0, 1)", x.bequest(0, 1), 3);
        CHECKS.due("pass(0, 3) again, to whom it goes", x.pass(0, 3), 3);
        CHECKS.due("pass(0, 2), to whom another of his goes", x.pass(0, 2), 3);
        CHECKS.due("pass(4, 0), the last one", x.pass(4, 0), 2);
        CHECKS.promise(9, "or its CLAIM passed on (it goes to another one then, not who leaves it);");
        CHECKS.due("bequest(0, 0), as it was", x.bequest(0, 0), 0);
        CHECKS.due("bequest(0, 2), as it was", x.bequest(0, 2), 40);
        WillsReadFirst y = Checks.laid(TWO + "p0,0,99,0;w0,1,20;");
        CHECKS.due("inherited(1) ahead of pass", y.inherited(1), 20);
        y.pass(0, 2);
        CHECKS.due("inherited(1) behind pass", y.inherited(1), 0);
        CHECKS.due("inherited(2) behind pass", y.inherited(2), 20);
    }

    private static void passToWhoLeavesIt() {
        CHECKS.promise(9, "NO: to who leaves it.");
        WillsReadFirst x = new WillsReadFirst();
        int[] leaves = {0, 0, 1, 2, 3};
        int[] goes = {1, 2, 3, 0, 2};
        for (int k = 0; k < leaves.length; k++) {
            CHECKS.due("pass(" + k + ", " + leaves[k] + ")", x.pass(k, leaves[k]), -2);
            CHECKS.due("bequest(" + k + ", 1) behind it", x.bequest(k, 1), goes[k]);
        }
        CHECKS.due("count(4) behind refused ones", x.count(4), 0);
        x.pass(0, 3);
        CHECKS.due("pass(0, 0), passed on before", x.pass(0, 0), -2);
        CHECKS.due("bequest(0, 1) behind it", x.bequest(0, 1), 3);
    }

    private static void passOfWrongNumbers() {
        CHECKS.promise(9, "BAD;");
        WillsReadFirst x = new WillsReadFirst();
        for (int k : Checks.outside(0, 4)) {
            CHECKS.due("pass(" + k + ", 3)", x.pass(k, 3), -1);
        }
        for (int j : Checks.outside(0, 3)) {
            CHECKS.due("pass(0, " + j + ")", x.pass(0, j), -1);
        }
        CHECKS.due("pass(-1, 4)", x.pass(-1, 4), -1);
        CHECKS.due("pass(5, 0)", x.pass(5, 0), -1);
        CHECKS.due("bequest(0, 1) behind wrong ones", x.bequest(0, 1), 1);
        CHECKS.due("pass(0, 1), there are no bequests", Checks.laid(TWO).pass(0, 1), -1);
        CHECKS.due("pass(0, 2), there are two persons", Checks.laid(TWO + "w0,1,5;").pass(0, 2), -1);
    }

    private static void helpTold() {
        CHECKS.promise(10, "HELP of n (1 to 99) coins for a PERSON in a year (0 to 150): how many are told.");
        WillsReadFirst x = Checks.laid("p60,0,99,0;p0,0,20,0;");
        CHECKS.due("help(0, 150, 99), the last year", x.help(0, 150, 99), 1);
        CHECKS.due("help(1, 0, 1), the first year", x.help(1, 0, 1), 2);
        CHECKS.due("help(1, 0, 1) once more", x.help(1, 0, 1), 3);
        CHECKS.due("count(2)", x.count(2), 3);
        CHECKS.due("coins(0, 149)", x.coins(0, 149), 0);
        CHECKS.due("coins(0, 150)", x.coins(0, 150), 99);
        CHECKS.due("coins(1, 0), both come", x.coins(1, 0), 2);
        CHECKS.due("inherited(1), help is no bequest", x.inherited(1), 0);
        CHECKS.due("person(1, 4), help is no gift", x.person(1, 4), 0);
    }

    private static void helpComes() {
        CHECKS.promise(10, "2 HELP of this year comes to who lives (born, not dead).");
        WillsReadFirst x = Checks.laid("p5,0,99,0;p0,0,20,0;");
        x.help(0, 5, 1);
        CHECKS.due("coins(0, 4)", x.coins(0, 4), 0);
        CHECKS.due("coins(0, 5), in the year of birth", x.coins(0, 5), 1);
        CHECKS.due("coins(0, 6), once alone", x.coins(0, 6), 1);
        x.help(0, 5, 99);
        CHECKS.due("coins(0, 5), once more in it", x.coins(0, 5), 100);
        CHECKS.due("coins(1, 5), to him alone", x.coins(1, 5), 0);
        WillsReadFirst z = Checks.laid("p0,0,20,0;p0,0,99,0;w0,1,5;");
        CHECKS.due("having() without help", z.having(), 0);
        z.help(0, 20, 5);
        CHECKS.due("having(), help comes ahead of death", z.having(), 1);
        CHECKS.due("brought(0)", z.brought(0), 5);
    }

    private static void helpToTheUnbornAndDead() {
        CHECKS.promise(10, "(born, not dead)");
        WillsReadFirst x = Checks.laid("p5,0,99,0;p0,0,20,0;p0,0,40,0;w2,1,9;");
        CHECKS.due("help(0, 4, 50), unborn", x.help(0, 4, 50), 1);
        CHECKS.due("coins(0, 4)", x.coins(0, 4), 0);
        CHECKS.due("coins(0, 5), it does not wait", x.coins(0, 5), 0);
        CHECKS.due("help(1, 21, 9), dead", x.help(1, 21, 9), 2);
        CHECKS.due("coins(1, 21)", x.coins(1, 21), 0);
        CHECKS.due("help(1, 20, 9), in the year of death", x.help(1, 20, 9), 3);
        CHECKS.due("coins(1, 20)", x.coins(1, 20), 0);
        CHECKS.due("help(2, 18, 9), in the year of having it", x.help(2, 18, 9), 4);
        CHECKS.due("dies(2)", x.dies(2), 18);
        CHECKS.due("brought(0)", x.brought(0), 9);
        WillsReadFirst y = Checks.laid("p0,0,20,0;p0,0,40,0;w0,1,9;");
        y.help(0, 21, 9);
        CHECKS.due("brought(0), help behind death", y.brought(0), 0);
        CHECKS.due("coins(1, 21), help behind death", y.coins(1, 21), 0);
    }

    private static void fourHelps() {
        CHECKS.promise(10, "HELP of n coins can be told for a year (4 at most).");
        WillsReadFirst x = new WillsReadFirst();
        int[] whom = {0, 0, 3, 1};
        for (int n = 1; n <= 4; n++) {
            CHECKS.due("help " + n, x.help(whom[n - 1], 7 * n, n), n);
        }
        CHECKS.promise(10, "FULL.");
        CHECKS.due("help, a fifth", x.help(2, 6, 1), -3);
        CHECKS.due("help, a fifth for another year", x.help(0, 150, 99), -3);
        CHECKS.due("help, a fifth of no coins, BAD comes ahead", x.help(0, 6, 0), -1);
        CHECKS.due("help, a fifth for nobody, BAD comes ahead", x.help(4, 6, 1), -1);
        CHECKS.due("help, a fifth for no year, BAD comes ahead", x.help(0, 151, 1), -1);
        CHECKS.due("count(2)", x.count(2), 4);
        CHECKS.due("count(4)", x.count(4), 4);
        CHECKS.due("coins(2, 10), the fifth does not come", x.coins(2, 10), 5);
        x.undo();
        CHECKS.due("help, a fourth again", x.help(2, 10, 30), 4);
        CHECKS.due("coins(2, 10), it comes", x.coins(2, 10), 35);
    }

    private static void helpOfWrongNumbers() {
        CHECKS.promise(10, "BAD;");
        WillsReadFirst x = Checks.laid("p5,0,99,0;p0,0,20,0;");
        for (int i : Checks.outside(0, 1)) {
            CHECKS.due("help(" + i + ", 0, 1)", x.help(i, 0, 1), -1);
        }
        for (int year : Checks.outside(0, 150)) {
            CHECKS.due("help(0, " + year + ", 1)", x.help(0, year, 1), -1);
        }
        for (int n : Checks.outside(1, 99)) {
            CHECKS.due("help(0, 0, " + n + ")", x.help(0, 0, n), -1);
        }
        CHECKS.due("count(2) behind wrong ones", x.count(2), 0);
        CHECKS.due("count(4) behind wrong ones", x.count(4), 0);
    }

    private static void undo() {
        CHECKS.promise(11, "UNDONE is the latest of these");
        WillsReadFirst x = new WillsReadFirst();
        int dies = x.dies(3);
        x.reword(0, 99);
        x.pass(1, 3);
        x.help(2, 20, 9);
        x.reword(0, 98);
        CHECKS.due("count(4)", x.count(4), 4);
        CHECKS.promise(11, "UNDONE: how many more can be.");
        CHECKS.due("undo() of reword", x.undo(), 3);
        CHECKS.due("bequest(0, 2)", x.bequest(0, 2), 99);
        CHECKS.due("undo() of help", x.undo(), 2);
        CHECKS.due("count(2)", x.count(2), 0);
        CHECKS.due("bequest(1, 1)", x.bequest(1, 1), 3);
        CHECKS.due("undo() of pass", x.undo(), 1);
        CHECKS.due("bequest(1, 1)", x.bequest(1, 1), 2);
        CHECKS.due("undo() of the first reword", x.undo(), 0);
        CHECKS.due("bequest(0, 2)", x.bequest(0, 2), 40);
        CHECKS.due("dies(3) as ever", x.dies(3), dies);
    }

    private static void undoOfHelp() {
        CHECKS.promise(11, "UNDONE is the latest of these");
        WillsReadFirst x = Checks.laid("p0,0,99,0;");
        x.help(0, 1, 5);
        x.help(0, 2, 7);
        CHECKS.due("coins(0, 3)", x.coins(0, 3), 12);
        CHECKS.due("undo() of the second help", x.undo(), 1);
        CHECKS.due("coins(0, 3), the first help stays", x.coins(0, 3), 5);
        CHECKS.due("help again", x.help(0, 3, 50), 2);
        CHECKS.due("coins(0, 3)", x.coins(0, 3), 55);
    }

    private static void nothingToUndo() {
        CHECKS.promise(11, "NO.");
        WillsReadFirst x = new WillsReadFirst();
        CHECKS.due("undo() of nothing", x.undo(), -2);
        x.reword(0, 9);
        CHECKS.due("undo()", x.undo(), 0);
        CHECKS.due("undo() of nothing more", x.undo(), -2);
        CHECKS.due("undo() of nothing more again", x.undo(), -2);
        CHECKS.due("bequest(0, 2) behind it", x.bequest(0, 2), 40);
        CHECKS.due("reword(0, 8) behind it", x.reword(0, 8), 40);
        CHECKS.due("count(4) behind it", x.count(4), 1);
        CHECKS.due("undo() behind it", x.undo(), 0);
    }

    private static void nothingBecomesAnother() {
        CHECKS.promise(11, "(such by which nothing becomes another, too;");
        WillsReadFirst x = new WillsReadFirst();
        x.reword(0, 50);
        x.reword(0, 50);
        x.pass(0, 1);
        CHECKS.due("count(4)", x.count(4), 3);
        CHECKS.due("undo() of pass to whom it went", x.undo(), 2);
        CHECKS.due("bequest(0, 1)", x.bequest(0, 1), 1);
        CHECKS.due("undo() of reword to what it was", x.undo(), 1);
        CHECKS.due("bequest(0, 2)", x.bequest(0, 2), 50);
        CHECKS.due("undo()", x.undo(), 0);
        CHECKS.due("bequest(0, 2)", x.bequest(0, 2), 40);
        for (int n = 0; n < 8; n++) {
            x.reword(0, 41);
            x.pass(0, 1);
        }
        CHECKS.due("count(4) of eight and more", x.count(4), 8);
    }

    private static void lastEight() {
        CHECKS.promise(11, "the last 8 can be).");
        WillsReadFirst x = new WillsReadFirst();
        for (int n = 1; n <= 11; n++) {
            x.reword(0, n);
            CHECKS.due("count(4) behind change " + n, x.count(4), Math.min(n, 8));
        }
        for (int left = 7; left >= 0; left--) {
            CHECKS.due("undo()", x.undo(), left);
            CHECKS.due("bequest(0, 2) with " + left + " left", x.bequest(0, 2), left + 3);
        }
        CHECKS.due("undo() of a ninth", x.undo(), -2);
        CHECKS.due("bequest(0, 2), the ninth stays", x.bequest(0, 2), 3);
        WillsReadFirst eight = new WillsReadFirst();
        for (int n = 1; n <= 8; n++) {
            eight.reword(0, n);
        }
        for (int left = 7; left >= 0; left--) {
            CHECKS.due("undo() of eight", eight.undo(), left);
        }
        CHECKS.due("bequest(0, 2), all eight undone", eight.bequest(0, 2), 40);
        WillsReadFirst some = new WillsReadFirst();
        for (int n = 1; n <= 9; n++) {
            some.reword(0, n);
        }
        some.undo();
        some.undo();
        CHECKS.due("count(4), nine told and two undone", some.count(4), 6);
        some.reword(0, 50);
        CHECKS.due("count(4), one more", some.count(4), 7);
        CHECKS.due("undo() of one more", some.undo(), 6);
        CHECKS.due("bequest(0, 2) behind it", some.bequest(0, 2), 7);
    }

    private static void lastEightOfAllSorts() {
        CHECKS.promise(11, "the last 8 can be).");
        WillsReadFirst x = new WillsReadFirst();
        x.reword(4, 77);
        x.help(0, 0, 1);
        x.pass(0, 2);
        x.reword(1, 5);
        x.help(1, 7, 2);
        x.pass(2, 0);
        x.reword(3, 6);
        x.help(2, 9, 3);
        x.pass(3, 1);
        for (int left = 7; left >= 0; left--) {
            CHECKS.due("undo() of a mixed one", x.undo(), left);
        }
        CHECKS.due("bequest(4, 2), changed too long ago", x.bequest(4, 2), 77);
        CHECKS.due("count(2)", x.count(2), 0);
        int[][] bequests = {{0, 1, 40}, {0, 2, 20}, {1, 3, 60}, {2, 0, 15}};
        for (int k = 0; k < bequests.length; k++) {
            CHECKS.due("bequest(" + k + ", 1)", x.bequest(k, 1), bequests[k][1]);
            CHECKS.due("bequest(" + k + ", 2)", x.bequest(k, 2), bequests[k][2]);
        }
        WillsReadFirst y = new WillsReadFirst();
        y.help(0, 0, 1);
        for (int n = 1; n <= 8; n++) {
            y.pass(0, 1 + n % 3);
        }
        for (int left = 7; left >= 0; left--) {
            y.undo();
        }
        CHECKS.due("undo(), the help was too long ago", y.undo(), -2);
        CHECKS.due("count(2), the help stays", y.count(2), 1);
        CHECKS.due("coins(0, 0), the help stays", y.coins(0, 0), 1);
    }

    private static void refusedAreNoChanges() {
        CHECKS.promise(11, "nothing changes then.");
        WillsReadFirst x = new WillsReadFirst();
        x.reword(0, 100);
        x.reword(5, 1);
        x.pass(0, 0);
        x.pass(0, 4);
        x.help(0, 151, 1);
        CHECKS.due("count(4) behind refused ones", x.count(4), 0);
        CHECKS.due("undo() behind refused ones", x.undo(), -2);
        for (int n = 0; n < 5; n++) {
            x.help(0, n, 1);
        }
        CHECKS.due("count(4), the fifth help was refused", x.count(4), 4);
        CHECKS.due("undo()", x.undo(), 3);
        CHECKS.due("count(2)", x.count(2), 3);
    }
}
