/** Promises 19 to 22: greatest, needs, mend, limits. */
public final class WhatWouldBeTest {
    private static final Checks CHECKS = new Checks("WhatWouldBeTest");

    public static void main(String[] args) {
        greatest();
        greatestOf1To300();
        greatestInPlaceOfAll();
        greatestAllElseAsItIs();
        greatestIsNone();
        greatestOfWrongNumbers();
        needs();
        needsOf0To300();
        needsAllElseAsItIs();
        needsIsNone();
        needsOfWrongNumbers();
        mend();
        mendOfSeveral();
        mendIsNone();
        mendOfWrongNumbers();
        limits();
        limitsOf20To99();
        CHECKS.finish();
    }

    private static void greatest(String text, int i, int want) {
        CHECKS.due("greatest(" + i + ") of " + text, Checks.laid(text).greatest(i), want);
    }

    private static void greatest() {
        CHECKS.promise(19, "GREATEST for a PERSON: what his BEQUESTS could be together at the most");
        greatest("p0,1,40,0;p0,0,99,0;w0,1,5;", 0, 31);
        greatest("p0,1,40,0;p0,0,99,0;w0,1,99;", 0, 31);
        greatest("p0,1,40,0;p0,0,99,0;w0,1,31;", 0, 31);
        greatest("p0,1,40,0;g0,9;", 0, 40);
        greatest("p0,3,99,0;", 0, 270);
        greatest("p60,1,99,0;", 0, 81);
        greatest("p60,1,90,0;", 0, 81);
        greatest("p60,1,89,0;", 0, 80);
        greatest("p0,5,20,3;g0,2;", 0, 2);
        greatest("p0,5,30,3;g0,2;", 0, 12);
    }

    private static void greatestOf1To300() {
        CHECKS.promise(19, "at the most (1 to 300),");
        greatest("p0,9,42,0;g0,2;", 0, 299);
        greatest("p0,9,42,0;g0,3;", 0, 300);
        greatest("p0,9,42,0;g0,4;", 0, 300);
        greatest("p0,9,99,0;g0,99;", 0, 300);
        greatest("p0,0,40,0;g0,1;", 0, 1);
        greatest("p0,1,20,2;g0,1;", 0, 1);
    }

    private static void greatestInPlaceOfAll() {
        CHECKS.promise(19, "as one to nobody in place of them,");
        greatest("p0,1,40,0;p0,0,99,0;w0,1,99;w0,1,99;w0,1,99;", 0, 31);
        greatest("p0,1,40,0;", 0, 31);
        greatest("p0,9,99,0;p0,9,25,0;w0,1,50;w1,0,99;", 0, 300);
        greatest("p0,9,99,0;p0,9,25,0;w0,1,50;w1,0,99;", 1, 194);
        greatest("p0,1,30,0;p0,0,99,0;w0,1,12;w1,0,12;", 0, 21);
        greatest("p0,0,99,0;p0,1,30,0;p0,0,99,0;w0,1,9;w1,0,20;w2,0,1;g0,1;", 0, 21);
    }

    private static void greatestAllElseAsItIs() {
        CHECKS.promise(19, "all else being as it is, so that he dies HAVING it;");
        greatest("p0,1,20,0;p0,0,20,0;w0,1,11;", 1, 11);
        greatest("p0,0,21,0;p0,1,20,0;w1,0,11;", 0, 11);
        greatest("p60,1,90,0;p60,0,99,0;w0,1,81;", 1, 81);
        WillsReadFirst x = new WillsReadFirst();
        x.help(2, 0, 99);
        int without = x.greatest(2);
        x.help(2, 10, 99);
        CHECKS.due("greatest(2) behind help", x.greatest(2), without + 99);
        x.help(2, 150, 99);
        CHECKS.due("greatest(2) behind help too late", x.greatest(2), without + 99);
        WillsReadFirst y = Checks.laid("p0,1,40,0;p0,0,99,0;w0,1,5;");
        y.greatest(0);
        CHECKS.due("dies(0) behind greatest", y.dies(0), 18);
        CHECKS.due("person(0, 5) behind greatest", y.person(0, 5), 5);
        CHECKS.due("count(1) behind greatest", y.count(1), 1);
    }

    private static void greatestIsNone() {
        CHECKS.promise(19, "so that he dies HAVING it; none.");
        greatest("p0,0,40,0;", 0, -4);
        greatest("p0,9,20,3;", 0, -4);
        greatest("p0,1,99,2;", 0, -4);
        CHECKS.promise(19, "GREATEST. NONE;");
        greatest("p0,0,20,0;p0,1,20,0;w1,0,11;", 0, -4);
        greatest("p60,0,99,0;p60,1,90,0;w1,0,81;", 0, -4);
        greatest("p0,0,20,0;p0,1,30,0;w1,0,21;", 0, -4);
    }

    private static void greatestOfWrongNumbers() {
        CHECKS.promise(19, "BAD.");
        WillsReadFirst x = new WillsReadFirst();
        for (int i : Checks.outside(0, 3)) {
            CHECKS.due("greatest(" + i + ")", x.greatest(i), -1);
        }
    }

    private static void needs(String text, int i, int want) {
        CHECKS.due("needs(" + i + ") of " + text, Checks.laid(text).needs(i), want);
    }

    private static void needs() {
        CHECKS.promise(20, "HELP for a PERSON: the least coins");
        needs("p0,1,40,0;p0,0,99,0;w0,1,31;", 0, 0);
        needs("p0,1,40,0;p0,0,99,0;w0,1,32;", 0, 1);
        needs("p0,1,40,0;p0,0,99,0;w0,1,99;", 0, 68);
        needs("p0,1,40,0;p0,0,99,0;w0,1,99;w0,1,1;", 0, 69);
        needs("p60,0,99,0;p60,1,90,0;w1,0,81;w0,1,5;", 0, 5);
        CHECKS.promise(20, "HELP.");
        needs("p0,9,40,0;p0,0,99,0;w0,1,1;", 0, 0);
        needs("p0,0,40,0;p0,0,99,0;w0,1,9;g0,4;", 0, 5);
    }

    private static void needsOf0To300() {
        CHECKS.promise(20, "(0 to 300) more at his birth by which he dies HAVING it,");
        needs("p0,0,40,0;p0,0,99,0;w0,1,99;w0,1,99;w0,1,99;w0,1,3;", 0, 300);
        needs("p0,0,40,0;p0,0,99,0;w0,1,99;w0,1,99;w0,1,99;w0,1,2;", 0, 299);
        needs("p0,0,40,0;p0,0,99,0;w0,1,99;w0,1,99;w0,1,99;w0,1,4;", 0, -4);
        needs("p0,0,40,0;p0,0,99,0;w0,1,99;w0,1,99;w0,1,99;w0,1,4;g0,1;", 0, 300);
        needs("p0,0,40,0;p0,0,99,0;w0,1,1;", 0, 1);
        needs("p0,0,40,0;p0,0,99,0;w0,1,1;g0,1;", 0, 0);
        needs("p60,0,99,0;p0,0,99,0;w0,1,99;", 0, 99);
    }

    private static void needsAllElseAsItIs() {
        CHECKS.promise(20, "all else being as it is; none.");
        needs("p0,1,20,0;p0,0,20,0;w0,1,11;w1,0,20;", 1, 9);
        needs("p0,0,20,0;p0,1,20,0;w1,0,11;w0,1,20;", 0, 20);
        WillsReadFirst x = new WillsReadFirst();
        x.help(2, 50, 5);
        x.reword(3, 99);
        CHECKS.due("needs(2) is the same with help too late", x.needs(2), 0);
        WillsReadFirst y = Checks.laid("p0,0,40,0;p0,0,99,0;w0,1,9;g0,4;");
        y.help(0, 40, 2);
        CHECKS.due("needs(0) behind help", y.needs(0), 3);
        y.help(0, 41, 2);
        CHECKS.due("needs(0) behind help too late", y.needs(0), 3);
        CHECKS.due("person(0, 4) behind needs", y.person(0, 4), 4);
        CHECKS.due("dies(0) behind needs", y.dies(0), 40);
        CHECKS.due("having() behind needs", y.having(), 0);
        CHECKS.due("count(2) behind needs", y.count(2), 2);
    }

    private static void needsIsNone() {
        CHECKS.promise(20, "NONE;");
        needs("p0,1,40,0;p0,0,99,0;w0,1,99;", 1, -4);
        needs("p0,9,40,0;", 0, -4);
        needs("p0,0,40,0;p0,0,99,0;" + "w0,1,99;".repeat(9), 0, -4);
    }

    private static void needsOfWrongNumbers() {
        CHECKS.promise(20, "BAD.");
        WillsReadFirst x = new WillsReadFirst();
        for (int i : Checks.outside(0, 3)) {
            CHECKS.due("needs(" + i + ")", x.needs(i), -1);
        }
    }

    private static void mend(String text, int which, int many) {
        WillsReadFirst x = Checks.laid(text);
        CHECKS.due("mend(0) of " + text, x.mend(0), which);
        CHECKS.due("mend(1) of " + text, x.mend(1), many);
    }

    private static void mend() {
        CHECKS.promise(21, "MEND: the BEQUEST without which most die HAVING it,");
        mend("p0,1,20,0;p0,0,99,0;w0,1,5;w0,1,12;", 1, 1);
        mend("p0,1,20,0;p0,0,20,0;p0,0,99,0;w0,1,6;w0,2,9;w1,2,6;", 1, 2);
        mend("p0,9,30,0;p0,9,30,0;p0,1,20,0;w0,1,9;w1,0,9;w2,0,9;w2,1,9;", 2, 3);
        mend("p0,1,20,0;p0,0,99,0;p0,0,20,0;" + "w0,1,1;".repeat(8) + "w2,1,99;", 0, 1);
        mend("p0,1,20,0;p0,0,99,0;" + "w0,1,11;".repeat(8) + "w0,1,99;", 0, 0);
        mend("p0,1,20,0;p0,0,99,0;" + "w0,1,1;".repeat(8) + "w0,1,99;", 8, 1);
        CHECKS.promise(21, "MEND: which (what = 0), how many (1).");
        mend("p0,1,20,0;p0,0,99,0;w0,1,5;", 0, 0);
        mend("p0,9,20,0;p0,9,20,0;p0,9,20,0;w0,1,5;w1,2,5;w2,0,5;w2,1,5;", 2, 3);
        WillsReadFirst x = Checks.laid("p0,1,20,0;p0,0,99,0;w0,1,5;w0,1,12;");
        x.mend(0);
        CHECKS.due("count(1) behind mend", x.count(1), 2);
        CHECKS.due("bequest(1, 2) behind mend", x.bequest(1, 2), 12);
        CHECKS.due("having() behind mend", x.having(), 0);
    }

    private static void mendOfSeveral() {
        CHECKS.promise(21, "of several the first: it; how many;");
        mend("p0,1,20,0;p0,0,99,0;w0,1,5;w0,1,9;", 0, 1);
        mend("p0,1,20,0;p0,0,99,0;w0,1,12;w0,1,12;", 0, 0);
        mend("p0,1,20,0;p0,1,20,0;p0,0,99,0;w0,2,5;w1,2,5;", 0, 1);
        mend("p0,1,20,0;p0,0,20,0;p0,0,99,0;w0,2,5;w0,1,6;w1,2,6;", 0, 2);
        mend("p0,1,20,0;p0,0,99,0;w0,1,90;w0,1,6;w0,1,5;", 0, 1);
        mend("p0,1,20,0;p0,0,99,0;w0,1,6;w0,1,90;w0,1,5;w0,1,1;", 0, 0);
    }

    private static void mendIsNone() {
        CHECKS.promise(21, "none (there are none).");
        mend("p0,1,20,0;", -4, -4);
        mend("p0,9,20,0;p0,9,20,0;p0,9,20,0;g0,50;", -4, -4);
        CHECKS.promise(21, "NONE;");
        WillsReadFirst x = new WillsReadFirst();
        Checks.write(x, "p0,9,20,0;");
        x.lay();
        CHECKS.due("mend(0), there are bequests no more", x.mend(0), -4);
        CHECKS.due("mend(1), there are bequests no more", x.mend(1), -4);
    }

    private static void mendOfWrongNumbers() {
        CHECKS.promise(21, "BAD.");
        WillsReadFirst x = new WillsReadFirst();
        WillsReadFirst none = Checks.laid("p0,1,20,0;");
        for (int what : Checks.outside(0, 1)) {
            CHECKS.due("mend(" + what + ")", x.mend(what), -1);
            CHECKS.due("mend(" + what + ") without bequests, BAD comes ahead of NONE", none.mend(what), -1);
        }
    }

    private static void limits() {
        CHECKS.promise(22, "LIMITS: were all LIMITS l (20 to 99): how many would die HAVING it.");
        WillsReadFirst x = Checks.laid("p0,1,99,0;p0,2,20,0;p0,0,99,0;w0,2,30;w1,2,24;");
        int[][] limits = {{20, 0}, {21, 1}, {38, 1}, {39, 2}, {99, 2}};
        for (int[] pair : limits) {
            CHECKS.due("limits(" + pair[0] + ")", x.limits(pair[0]), pair[1]);
        }
        CHECKS.due("having() with their own limits", x.having(), 1);
        CHECKS.due("person(1, 2) behind limits", x.person(1, 2), 20);
        x.reword(1, 50);
        CHECKS.due("limits(33) behind reword", x.limits(33), 0);
        CHECKS.due("limits(34) behind reword", x.limits(34), 1);
        String six = "p0,9,20,0;".repeat(6);
        WillsReadFirst all = Checks.laid(six + "w0,1,9;w1,2,9;w2,3,9;w3,4,9;w4,5,9;w5,0,9;");
        CHECKS.due("limits(20), all six", all.limits(20), 6);
        CHECKS.due("limits(20), nobody leaves anything", Checks.laid(six).limits(20), 0);
        WillsReadFirst lost = Checks.laid("p0,0,99,0;p0,1,99,0;w1,0,22;w0,1,22;");
        CHECKS.due("limits(30), the heir is dead then", lost.limits(30), 0);
        CHECKS.due("limits(31), the heir is dead then", lost.limits(31), 1);
        CHECKS.due("limits(32), the heir lives on", lost.limits(32), 2);
    }

    private static void limitsOf20To99() {
        CHECKS.promise(22, "LIMITS. BAD.");
        WillsReadFirst x = Checks.laid("p0,1,50,0;p0,0,50,0;w0,1,11;");
        CHECKS.due("limits(20), the least", x.limits(20), 1);
        CHECKS.due("limits(99), the most", x.limits(99), 1);
        for (int l : Checks.outside(20, 99)) {
            CHECKS.due("limits(" + l + ")", x.limits(l), -1);
        }
        WillsReadFirst late = Checks.laid("p0,1,50,0;p0,0,50,0;w0,1,90;");
        CHECKS.due("limits(98), a year too short", late.limits(98), 0);
        CHECKS.due("limits(99), just long enough", late.limits(99), 1);
        CHECKS.promise(22, "were all LIMITS l (20 to 99)");
        CHECKS.due("limits(19)", x.limits(19), -1);
        CHECKS.due("limits(100)", x.limits(100), -1);
    }
}
