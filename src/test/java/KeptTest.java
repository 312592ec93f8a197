/** Promises 30 to 32: keep, back, count. */
public final class KeptTest {
    private static final Checks CHECKS = new Checks("KeptTest");

    public static void main(String[] args) {
        checkKeep();
        checkBack();
        checkBackBringsAll();
        checkBackAndUndo();
        checkBackLeavesTheRest();
        checkCount();
        CHECKS.finish();
    }

    private static void checkKeep() {
        WillsReadFirst x = new WillsReadFirst();
        CHECKS.due("keep()", x.keep(), 1);
        CHECKS.due("keep() of the same", x.keep(), 2);
        CHECKS.due("keep() of a third", x.keep(), -3);
        CHECKS.due("count(5)", x.count(5), 2);
        x.reword(0, 1);
        CHECKS.due("keep() of a third that is another", x.keep(), -3);
        CHECKS.due("back()", x.back(), 1);
        CHECKS.due("bequest(0, 2), the third was not kept", x.bequest(0, 2), 40);
        CHECKS.due("keep() again", x.keep(), 2);
    }

    private static void checkBack() {
        WillsReadFirst x = new WillsReadFirst();
        CHECKS.due("back() of nothing", x.back(), -2);
        x.keep();
        x.reword(0, 11);
        x.keep();
        x.reword(0, 12);
        CHECKS.due("back()", x.back(), 1);
        CHECKS.due("bequest(0, 2), as kept last", x.bequest(0, 2), 11);
        CHECKS.due("back() to the first", x.back(), 0);
        CHECKS.due("bequest(0, 2), as kept first", x.bequest(0, 2), 40);
        CHECKS.due("back() of no more", x.back(), -2);
        CHECKS.due("bequest(0, 2) stays", x.bequest(0, 2), 40);
        CHECKS.due("count(5)", x.count(5), 0);
    }

    private static void checkBackBringsAll() {
        WillsReadFirst x = Checks.laid("p0,0,99,0;p0,0,99,0;p0,0,99,0;w0,1,5;w1,2,6;");
        x.help(0, 3, 7);
        x.help(1, 4, 8);
        x.pass(0, 2);
        x.keep();
        x.undo();
        x.undo();
        x.undo();
        x.help(2, 1, 99);
        x.reword(1, 9);
        CHECKS.due("coins(0, 4)", x.coins(0, 4), 0);
        CHECKS.due("back()", x.back(), 0);
        CHECKS.due("count(2)", x.count(2), 2);
        CHECKS.due("coins(0, 4) as kept", x.coins(0, 4), 7);
        CHECKS.due("coins(1, 4) as kept", x.coins(1, 4), 8);
        CHECKS.due("coins(2, 4) as kept", x.coins(2, 4), 0);
        CHECKS.due("bequest(0, 1) as kept", x.bequest(0, 1), 2);
        CHECKS.due("bequest(1, 2) as kept", x.bequest(1, 2), 6);
        x.help(0, 5, 1);
        x.help(0, 5, 1);
        CHECKS.due("help, a fifth behind back", x.help(0, 5, 1), -3);
    }

    private static void checkBackAndUndo() {
        WillsReadFirst x = new WillsReadFirst();
        x.reword(0, 7);
        CHECKS.due("keep()", x.keep(), 1);
        CHECKS.due("count(4), keep lets it stand", x.count(4), 1);
        x.reword(0, 8);
        x.back();
        CHECKS.due("count(4) behind back", x.count(4), 0);
        CHECKS.due("undo() behind back", x.undo(), -2);
        CHECKS.due("bequest(0, 2) behind back", x.bequest(0, 2), 7);
        x.keep();
        x.reword(0, 9);
        CHECKS.due("undo() does not take back what is kept", x.undo(), 0);
        CHECKS.due("count(5) behind undo", x.count(5), 1);
        WillsReadFirst y = new WillsReadFirst();
        y.reword(0, 7);
        y.back();
        CHECKS.due("undo() behind a refused back", y.undo(), 0);
    }

    private static void checkBackLeavesTheRest() {
        WillsReadFirst x = new WillsReadFirst();
        x.keep();
        x.seen(0, 0, 1);
        x.write('p');
        x.back();
        CHECKS.due("count(3) behind back", x.count(3), 1);
        CHECKS.due("count(6) behind back", x.count(6), 1);
        CHECKS.due("kinds(0) behind back", x.kinds(0), 0);
        CHECKS.due("kinds(1) behind back", x.kinds(1), 15);
    }

    private static void checkCount() {
        WillsReadFirst x = Checks.laid("p0,0,99,0;p0,0,99,0;w0,1,5;w0,1,6;w1,0,7;");
        x.help(0, 1, 1);
        x.reword(0, 1);
        x.pass(0, 1);
        x.keep();
        x.seen(0, 0, 0);
        x.seen(0, 0, 0);
        x.write('p');
        int[] want = {2, 3, 1, 2, 3, 1, 42};
        for (int what = 0; what < want.length; what++) {
            CHECKS.due("count(" + what + ")", x.count(what), want[what]);
        }
        int[] wrong = {-1, 7, Integer.MAX_VALUE, Integer.MIN_VALUE};
        for (int what : wrong) {
            CHECKS.due("count(" + what + ")", x.count(what), -1);
        }
    }
}
