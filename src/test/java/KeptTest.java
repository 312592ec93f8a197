/** Promises 30 to 32: keep, back, count. */
public final class KeptTest {
    private static final Checks CHECKS = new Checks("KeptTest");

    public static void main(String[] args) {
        keep();
        twoKept();
        back();
        backBringsAll();
        keptNoMore();
        nothingUndoneThen();
        nothingToGoBackTo();
        backLeavesTheRest();
        counts();
        countsOfAFullObject();
        countOfWrongNumbers();
        CHECKS.finish();
    }

    private static void keep() {
        CHECKS.promise(30, "KEPT: how many.");
        WillsReadFirst x = new WillsReadFirst();
        CHECKS.due("keep()", x.keep(), 1);
        CHECKS.due("count(5)", x.count(5), 1);
        CHECKS.due("keep() of the same", x.keep(), 2);
        CHECKS.due("count(5)", x.count(5), 2);
        CHECKS.due("count(4), keep is nothing to be undone", x.count(4), 0);
        CHECKS.due("bequest(0, 2) behind keep", x.bequest(0, 2), 40);
        WillsReadFirst y = new WillsReadFirst();
        y.reword(0, 7);
        y.keep();
        CHECKS.due("count(4), keep lets it stand", y.count(4), 1);
        CHECKS.due("undo() behind keep", y.undo(), 0);
        CHECKS.due("bequest(0, 2) behind undo", y.bequest(0, 2), 40);
        CHECKS.due("count(5) behind undo", y.count(5), 1);
        CHECKS.due("back() behind undo", y.back(), 0);
        CHECKS.due("bequest(0, 2), undo does not take back what is kept", y.bequest(0, 2), 7);
    }

    private static void twoKept() {
        CHECKS.promise(30, "2 at most.");
        WillsReadFirst x = new WillsReadFirst();
        CHECKS.due("keep()", x.keep(), 1);
        CHECKS.due("keep() of a second", x.keep(), 2);
        CHECKS.promise(30, "FULL.");
        CHECKS.due("keep() of a third", x.keep(), -3);
        CHECKS.due("count(5)", x.count(5), 2);
        x.reword(0, 1);
        CHECKS.due("keep() of a third that is another", x.keep(), -3);
        CHECKS.due("count(4) behind it", x.count(4), 1);
        CHECKS.due("back()", x.back(), 1);
        CHECKS.due("bequest(0, 2), the third was not kept", x.bequest(0, 2), 40);
        x.reword(0, 2);
        CHECKS.due("keep() again", x.keep(), 2);
        CHECKS.due("keep(), full again", x.keep(), -3);
        CHECKS.due("back()", x.back(), 1);
        CHECKS.due("bequest(0, 2), kept again", x.bequest(0, 2), 2);
    }

    private static void back() {
        CHECKS.promise(31, "As KEPT last");
        WillsReadFirst x = new WillsReadFirst();
        x.keep();
        x.reword(0, 11);
        x.keep();
        x.reword(0, 12);
        CHECKS.due("back()", x.back(), 1);
        CHECKS.due("bequest(0, 2), as kept last", x.bequest(0, 2), 11);
        CHECKS.promise(31, "how many are left;");
        CHECKS.due("back() to the first", x.back(), 0);
        CHECKS.due("bequest(0, 2), as kept first", x.bequest(0, 2), 40);
    }

    private static void backBringsAll() {
        CHECKS.promise(31, "KEPT are BEQUESTS (their N, to whom they go), HELP:");
        WillsReadFirst x = Checks.laid("p0,0,99,0;p0,0,99,0;p0,0,99,0;w0,1,5;w1,2,6;");
        x.help(0, 3, 7);
        x.help(1, 4, 8);
        x.pass(0, 2);
        x.keep();
        x.undo();
        x.undo();
        x.undo();
        x.help(2, 1, 99);
        x.reword(1, 9);
        CHECKS.due("coins(0, 4)", x.coins(0, 4), 0);
        CHECKS.due("back()", x.back(), 0);
        CHECKS.due("count(2)", x.count(2), 2);
        CHECKS.due("coins(0, 4) as kept", x.coins(0, 4), 7);
        CHECKS.due("coins(1, 4) as kept", x.coins(1, 4), 8);
        CHECKS.due("coins(2, 4) as kept", x.coins(2, 4), 0);
        CHECKS.due("bequest(0, 1) as kept", x.bequest(0, 1), 2);
        CHECKS.due("bequest(1, 2) as kept", x.bequest(1, 2), 6);
        x.help(0, 5, 1);
        x.help(0, 5, 1);
        CHECKS.due("help, a fifth behind back", x.help(0, 5, 1), -3);
        WillsReadFirst y = new WillsReadFirst();
        y.keep();
        for (int n = 0; n < 4; n++) {
            y.help(0, n, 9);
        }
        y.back();
        CHECKS.due("count(2), no help was kept", y.count(2), 0);
        CHECKS.due("coins(0, 9), no help was kept", y.coins(0, 9), 0);
        CHECKS.due("help behind it", y.help(0, 0, 9), 1);
    }

    private static void keptNoMore() {
        CHECKS.promise(31, "(it is KEPT no more then):");
        WillsReadFirst x = new WillsReadFirst();
        x.keep();
        x.back();
        CHECKS.due("count(5) behind back", x.count(5), 0);
        CHECKS.due("back() again", x.back(), -2);
        CHECKS.due("keep() behind back", x.keep(), 1);
        x.reword(0, 5);
        CHECKS.due("keep()", x.keep(), 2);
        CHECKS.due("back()", x.back(), 1);
        CHECKS.due("bequest(0, 2)", x.bequest(0, 2), 5);
        CHECKS.due("back()", x.back(), 0);
        CHECKS.due("bequest(0, 2)", x.bequest(0, 2), 40);
    }

    private static void nothingUndoneThen() {
        CHECKS.promise(31, "nothing is UNDONE then.");
        WillsReadFirst x = new WillsReadFirst();
        x.reword(0, 7);
        x.keep();
        x.reword(0, 8);
        x.back();
        CHECKS.due("count(4) behind back", x.count(4), 0);
        CHECKS.due("undo() behind back", x.undo(), -2);
        CHECKS.due("bequest(0, 2) behind back", x.bequest(0, 2), 7);
        x.reword(0, 9);
        CHECKS.due("undo() of what was told since", x.undo(), 0);
        CHECKS.due("bequest(0, 2) behind undo", x.bequest(0, 2), 7);
    }

    private static void nothingToGoBackTo() {
        CHECKS.promise(31, "NO.");
        WillsReadFirst x = new WillsReadFirst();
        CHECKS.due("back() of nothing", x.back(), -2);
        x.reword(0, 7);
        CHECKS.due("back() of nothing behind a change", x.back(), -2);
        CHECKS.due("bequest(0, 2) stays", x.bequest(0, 2), 7);
        CHECKS.due("count(5)", x.count(5), 0);
        CHECKS.due("undo() behind a refused back", x.undo(), 0);
        CHECKS.due("bequest(0, 2) behind undo", x.bequest(0, 2), 40);
    }

    private static void backLeavesTheRest() {
        CHECKS.promise(31, "As KEPT last (it is KEPT no more then):");
        WillsReadFirst x = new WillsReadFirst();
        x.keep();
        x.seen(0, 0, 1);
        x.write('p');
        x.back();
        CHECKS.due("count(3) behind back", x.count(3), 1);
        CHECKS.due("count(6) behind back", x.count(6), 1);
        CHECKS.due("kinds(0) behind back", x.kinds(0), 0);
        CHECKS.due("kinds(1) behind back", x.kinds(1), 15);
        CHECKS.due("count(0) behind back", x.count(0), 4);
        CHECKS.due("person(2, 4) behind back", x.person(2, 4), 5);
    }

    private static void counts() {
        CHECKS.promise(32, "How many: 0 PERSONS, 1 BEQUESTS, 2 HELP told, 3 SEEN, 4 that can be UNDONE, 5 KEPT,"
                + " 6 letters of THE TEXT.");
        WillsReadFirst x = Checks.laid("p0,0,99,0;p0,0,99,0;w0,1,5;w0,1,6;w1,0,7;");
        x.help(0, 1, 1);
        x.reword(0, 1);
        x.pass(0, 1);
        x.keep();
        x.seen(0, 0, 0);
        x.seen(0, 0, 0);
        x.write('p');
        int[] want = {2, 3, 1, 2, 3, 1, 42};
        for (int what = 0; what < want.length; what++) {
            CHECKS.due("count(" + what + ")", x.count(what), want[what]);
        }
        WillsReadFirst least = Checks.laid("p0,0,99,0;");
        least.wipe();
        int[] none = {1, 0, 0, 0, 0, 0, 0};
        for (int what = 0; what < none.length; what++) {
            CHECKS.due("count(" + what + ") of the least", least.count(what), none[what]);
        }
    }

    private static void countsOfAFullObject() {
        CHECKS.promise(32, "How many:");
        WillsReadFirst x = Checks.laid("p0,0,99,0;".repeat(6) + "w0,1,5;".repeat(9));
        for (int n = 0; n < 10; n++) {
            x.help(0, n, 1);
            x.reword(0, 9);
            x.seen(5, 0, n);
            x.keep();
        }
        for (int n = 0; n < 80; n++) {
            x.write(' ');
        }
        int[] want = {6, 9, 4, 8, 8, 2, 200};
        for (int what = 0; what < want.length; what++) {
            CHECKS.due("count(" + what + ") of the most", x.count(what), want[what]);
        }
    }

    private static void countOfWrongNumbers() {
        CHECKS.promise(32, "BAD.");
        WillsReadFirst x = new WillsReadFirst();
        for (int what : Checks.outside(0, 6)) {
            CHECKS.due("count(" + what + ")", x.count(what), -1);
        }
    }
}
