/** Promises 23 and 24: ring, owes. */
public final class ClaimsTest {
    private static final Checks CHECKS = new Checks("ClaimsTest");
    private static final String SIX = "p0,0,20,0;p0,0,20,0;p0,0,20,0;p0,0,20,0;p0,0,20,0;p0,0,20,0;";

    public static void main(String[] args) {
        fewestBequests();
        backToHim();
        ringIsNone();
        ringBehindPass();
        ringOfWrongNumbers();
        owes();
        owesOfTheMost();
        owesOfWrongNumbers();
        CHECKS.finish();
    }

    private static void rings(String bequests, int... want) {
        WillsReadFirst x = Checks.laid(SIX + bequests);
        for (int i = 0; i < want.length; i++) {
            CHECKS.due("ring(" + i + ") of " + bequests, x.ring(i), want[i]);
        }
    }

    private static void fewestBequests() {
        CHECKS.promise(23, "RING of a PERSON: the fewest BEQUESTS,");
        rings("w0,1,5;w1,0,5;", 2, 2, -4, -4, -4, -4);
        rings("w0,1,5;w1,2,5;w2,3,5;w3,4,5;w4,5,5;w5,0,5;", 6, 6, 6, 6, 6, 6);
        rings("w0,1,5;w1,2,5;w2,3,5;w3,4,5;w4,5,5;w5,0,5;w3,0,5;", 4, 4, 4, 4, 6, 6);
        rings("w0,1,5;w1,2,5;w2,3,5;w3,4,5;w4,5,5;w5,0,5;w5,4,5;", 6, 6, 6, 6, 2, 2);
        rings("w0,1,5;w0,1,5;w1,0,5;w1,2,5;w2,3,5;w3,4,5;w4,1,5;", 2, 2, 4, 4, 4, -4);
        rings("w5,0,5;w4,5,5;w3,4,5;w2,3,5;w1,2,5;w0,1,5;", 6, 6, 6, 6, 6, 6);
    }

    private static void backToHim() {
        CHECKS.promise(23, "each to who leaves the next one, by which it comes from him back to him;");
        rings("w5,4,1;w4,3,1;w3,5,1;w0,5,1;w3,4,1;", -4, -4, -4, 2, 2, 3);
        rings("w0,1,5;w1,2,5;w2,0,5;w2,3,5;w3,2,5;w0,4,1;", 3, 3, 2, 2, -4, -4);
        rings("w0,1,5;w1,2,5;w2,1,5;", -4, 2, 2, -4, -4, -4);
    }

    private static void ringIsNone() {
        CHECKS.promise(23, "by which it comes from him back to him; none.");
        rings("", -4, -4, -4, -4, -4, -4);
        rings("w0,1,5;", -4, -4, -4, -4, -4, -4);
        rings("w0,1,5;w0,1,9;w0,2,5;w1,2,5;", -4, -4, -4, -4, -4, -4);
        CHECKS.promise(23, "RING. NONE;");
        rings("w0,1,5;w1,2,5;w2,3,5;w3,4,5;w4,5,5;", -4, -4, -4, -4, -4, -4);
        rings("w0,1,5;w1,2,5;w2,3,5;w3,4,5;w4,5,5;w5,1,5;", -4, 5, 5, 5, 5, 5);
    }

    private static void ringBehindPass() {
        CHECKS.promise(23, "RING.");
        WillsReadFirst x = Checks.laid("p0,0,20,0;p0,0,20,0;p0,0,20,0;w0,1,5;w1,0,5;w2,0,5;");
        CHECKS.due("ring(0)", x.ring(0), 2);
        x.pass(1, 2);
        CHECKS.due("ring(0) behind pass", x.ring(0), 3);
        x.pass(2, 1);
        CHECKS.due("ring(0) behind a second pass", x.ring(0), -4);
        CHECKS.due("ring(1) behind a second pass", x.ring(1), 2);
        x.undo();
        CHECKS.due("ring(0) behind undo", x.ring(0), 3);
    }

    private static void ringOfWrongNumbers() {
        CHECKS.promise(23, "BAD.");
        WillsReadFirst x = new WillsReadFirst();
        for (int i : Checks.outside(0, 3)) {
            CHECKS.due("ring(" + i + ")", x.ring(i), -1);
        }
    }

    private static void owes() {
        CHECKS.promise(24, "OWES: what a PERSON leaves by all BEQUESTS less what is left to him by all, and 1000.");
        WillsReadFirst x = Checks.laid("p0,0,20,0;p0,0,20,0;p0,0,20,0;w0,1,50;w0,2,7;w1,0,3;w1,2,90;");
        int[] want = {1054, 1043, 903};
        for (int i = 0; i < want.length; i++) {
            CHECKS.due("owes(" + i + ")", x.owes(i), want[i]);
        }
        x.reword(1, 8);
        x.pass(3, 0);
        int[] then = {965, 1043, 992};
        for (int i = 0; i < then.length; i++) {
            CHECKS.due("owes(" + i + ") behind changes", x.owes(i), then[i]);
        }
        WillsReadFirst gifts = Checks.laid("p0,0,20,0;p0,0,20,0;w0,1,5;g0,9;g1,9;");
        gifts.help(0, 0, 9);
        CHECKS.due("owes(0), gifts and help are no bequests", gifts.owes(0), 1005);
    }

    private static void owesOfTheMost() {
        CHECKS.promise(24, "and 1000.");
        CHECKS.due("owes(0) of nothing", Checks.laid("p0,0,20,0;").owes(0), 1000);
        CHECKS.due("owes(0) of as much", Checks.laid("p0,0,20,0;p0,0,20,0;w0,1,7;w1,0,7;").owes(0), 1000);
        WillsReadFirst most = Checks.laid("p0,0,20,0;p0,0,20,0;" + "w0,1,99;".repeat(9));
        CHECKS.due("owes(0) of the most", most.owes(0), 1891);
        CHECKS.due("owes(1) of the most", most.owes(1), 109);
    }

    private static void owesOfWrongNumbers() {
        CHECKS.promise(24, "OWES. BAD.");
        WillsReadFirst x = new WillsReadFirst();
        for (int i : Checks.outside(0, 3)) {
            CHECKS.due("owes(" + i + ")", x.owes(i), -1);
        }
    }
}
