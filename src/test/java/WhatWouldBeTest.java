/** Promises 19 to 22: greatest, needs, mend, limits. */
public final class WhatWouldBeTest {
    private static final Checks CHECKS = new Checks("WhatWouldBeTest");
    private static final int[] NO_NUMBERS = {Integer.MIN_VALUE, -5, -1, 6, 7, 500, Integer.MAX_VALUE};

    public static void main(String[] args) {
        checkGreatest();
        checkGreatestOfHeirs();
        checkNeeds();
        checkMend();
        checkMendOfSeveral();
        checkLimits();
        checkNothingBecomesAnother();
        CHECKS.finish();
    }

    private static void greatest(String text, int i, int want) {
        CHECKS.due("greatest(" + i + ") of " + text, Checks.laid(text).greatest(i), want);
    }

    private static void checkGreatest() {
        greatest("p0,1,40,0;p0,0,99,0;w0,1,5;", 0, 31);
        greatest("p0,1,40,0;p0,0,99,0;w0,1,99;", 0, 31);
        greatest("p0,1,40,0;", 0, 31);
        greatest("p0,1,40,0;g0,9;", 0, 40);
        greatest("p0,0,40,0;", 0, -4);
        greatest("p0,0,40,0;g0,1;", 0, 1);
        greatest("p0,3,99,0;", 0, 270);
        greatest("p0,9,42,0;g0,3;", 0, 300);
        greatest("p0,9,42,0;g0,2;", 0, 299);
        greatest("p0,9,42,0;g0,4;", 0, 300);
        greatest("p0,9,99,0;", 0, 300);
        greatest("p60,1,99,0;", 0, 81);
        WillsReadFirst x = new WillsReadFirst();
        CHECKS.due("greatest(4)", x.greatest(4), -1);
        for (int i : NO_NUMBERS) {
            CHECKS.due("greatest(" + i + ")", x.greatest(i), -1);
        }
        x.help(2, 0, 99);
        int without = x.greatest(2);
        x.help(2, 10, 99);
        CHECKS.due("greatest(2) behind help", x.greatest(2), without + 99);
    }

    private static void checkGreatestOfHeirs() {
        greatest("p0,1,20,0;p0,0,20,0;w0,1,11;", 1, 11);
        greatest("p0,0,20,0;p0,1,20,0;w1,0,11;", 0, -4);
        greatest("p0,0,21,0;p0,1,20,0;w1,0,11;", 0, 11);
        greatest("p60,0,99,0;p60,1,90,0;w1,0,81;", 0, -4);
        greatest("p60,1,90,0;p60,0,99,0;w0,1,81;", 1, 81);
        greatest("p0,9,99,0;p0,9,25,0;w0,1,50;w1,0,99;", 0, 300);
        greatest("p0,9,99,0;p0,9,25,0;w0,1,50;w1,0,99;", 1, 194);
    }

    private static void needs(String text, int i, int want) {
        CHECKS.due("needs(" + i + ") of " + text, Checks.laid(text).needs(i), want);
    }

    private static void checkNeeds() {
        needs("p0,1,40,0;p0,0,99,0;w0,1,31;", 0, 0);
        needs("p0,1,40,0;p0,0,99,0;w0,1,32;", 0, 1);
        needs("p0,1,40,0;p0,0,99,0;w0,1,99;", 0, 68);
        needs("p0,1,40,0;p0,0,99,0;w0,1,99;", 1, -4);
        needs("p0,0,40,0;p0,0,99,0;w0,1,99;w0,1,99;w0,1,99;w0,1,3;", 0, 300);
        needs("p0,0,40,0;p0,0,99,0;w0,1,99;w0,1,99;w0,1,99;w0,1,4;", 0, -4);
        needs("p0,0,40,0;p0,0,99,0;w0,1,99;w0,1,99;w0,1,99;w0,1,4;g0,1;", 0, 300);
        needs("p0,1,20,0;p0,0,20,0;w0,1,11;w1,0,20;", 1, 9);
        needs("p60,0,99,0;p60,1,90,0;w1,0,81;w0,1,5;", 0, 5);
        needs("p0,9,40,0;p0,0,99,0;w0,1,1;", 0, 0);
        WillsReadFirst x = new WillsReadFirst();
        CHECKS.due("needs(4)", x.needs(4), -1);
        for (int i : NO_NUMBERS) {
            CHECKS.due("needs(" + i + ")", x.needs(i), -1);
        }
        x.help(2, 50, 5);
        x.reword(3, 99);
        CHECKS.due("needs(2) is the same with help too late", x.needs(2), 0);
    }

    private static void mend(String text, int which, int many) {
        WillsReadFirst x = Checks.laid(text);
        CHECKS.due("mend(0) of " + text, x.mend(0), which);
        CHECKS.due("mend(1) of " + text, x.mend(1), many);
    }

    private static void checkMend() {
        mend("p0,1,20,0;p0,0,99,0;w0,1,5;w0,1,9;", 0, 1);
        mend("p0,1,20,0;p0,0,99,0;w0,1,5;w0,1,12;", 1, 1);
        mend("p0,1,20,0;p0,0,99,0;w0,1,12;w0,1,12;", 0, 0);
        mend("p0,1,20,0;p0,0,99,0;w0,1,5;", 0, 0);
        mend("p0,1,20,0;", -4, -4);
        mend("p0,1,20,0;p0,1,20,0;p0,0,99,0;w0,2,5;w1,2,5;", 0, 1);
        WillsReadFirst x = new WillsReadFirst();
        int[] wrong = {-1, 2, Integer.MAX_VALUE, Integer.MIN_VALUE};
        for (int what : wrong) {
            CHECKS.due("mend(" + what + ")", x.mend(what), -1);
            CHECKS.due("mend(" + what + ") without bequests", Checks.laid("p0,1,20,0;").mend(what), -1);
        }
    }

    private static void checkMendOfSeveral() {
        mend("p0,1,20,0;p0,0,20,0;p0,0,99,0;w0,2,5;w0,1,6;w1,2,6;", 0, 2);
        mend("p0,1,20,0;p0,0,20,0;p0,0,99,0;w0,1,6;w0,2,9;w1,2,6;", 1, 2);
        mend("p0,9,30,0;p0,9,30,0;p0,1,20,0;w0,1,9;w1,0,9;w2,0,9;w2,1,9;", 2, 3);
    }

    private static void checkLimits() {
        WillsReadFirst x = Checks.laid("p0,1,99,0;p0,2,20,0;p0,0,99,0;w0,2,30;w1,2,24;");
        int[][] limits = {{20, 0}, {21, 1}, {38, 1}, {39, 2}, {99, 2}};
        for (int[] pair : limits) {
            CHECKS.due("limits(" + pair[0] + ")", x.limits(pair[0]), pair[1]);
        }
        CHECKS.due("having() with their own limits", x.having(), 1);
        x.reword(1, 50);
        CHECKS.due("limits(33) behind reword", x.limits(33), 0);
        CHECKS.due("limits(34) behind reword", x.limits(34), 1);
        int[] wrong = {19, 100, 0, -1, Integer.MAX_VALUE, Integer.MIN_VALUE};
        for (int l : wrong) {
            CHECKS.due("limits(" + l + ")", x.limits(l), -1);
        }
    }

    private static void checkNothingBecomesAnother() {
        WillsReadFirst x = new WillsReadFirst();
        int[] before = state(x);
        x.greatest(0);
        x.needs(1);
        x.mend(0);
        x.limits(20);
        x.generations(99, 0);
        x.kinds(2);
        int[] behind = state(x);
        for (int n = 0; n < before.length; n++) {
            CHECKS.due("state " + n + " behind questions", behind[n], before[n]);
        }
    }

    private static int[] state(WillsReadFirst x) {
        return new int[] {x.having(), x.dies(0), x.dies(1), x.dies(2), x.dies(3), x.person(0, 5), x.person(1, 5),
            x.bequest(0, 2), x.person(0, 2), x.person(2, 3), x.coins(1, 20), x.count(1), x.count(4)};
    }
}
