/** Promises 17 and 18: first, longest. */
public final class LivesTest {
    private static final Checks CHECKS = new Checks("LivesTest");

    public static void main(String[] args) {
        firstByYears();
        firstOfSeveral();
        firstIsNone();
        longest();
        longestOfSeveral();
        longestOfThoseWhoDoNotDie();
        longestOfWrongNumbers();
        CHECKS.finish();
    }

    private static void first(String what, String text, int want) {
        CHECKS.due("first(), " + what + ", of " + text, Checks.laid(text).first(), want);
    }

    private static void firstByYears() {
        CHECKS.promise(17, "FIRST: the first PERSON, by years, who dies without");
        first("by years, not by number", "p0,0,30,0;p3,0,20,0;p0,0,22,0;", 2);
        first("by years, not by age", "p60,0,20,0;p0,0,79,0;", 1);
        first("in the last year", "p60,0,91,0;p60,0,90,0;", 1);
        first("not who dies having it", "p0,9,40,0;p0,0,60,0;w0,1,9;", 1);
        first("not who dies having it in the year of the limit", "p0,1,20,0;p0,0,60,0;w0,1,11;", 1);
        first("who leaves nothing dies without", "p0,9,40,0;p0,0,60,0;w1,0,5;", 0);
        first("alone", "p0,0,20,0;", 0);
    }

    private static void firstOfSeveral() {
        CHECKS.promise(17, "(of several the lowest)");
        first("two in one year", "p0,0,30,0;p2,0,20,0;p0,0,22,0;", 1);
        first("all in one year", "p4,0,20,0;p3,0,21,0;p2,0,22,0;", 0);
        first("the lowest dies having it", "p0,1,20,0;p0,0,20,0;p0,0,20,0;w0,2,11;", 1);
    }

    private static void firstIsNone() {
        CHECKS.promise(17, "who dies without (of several the lowest); none.");
        first("all live on", "p60,0,99,0;p60,0,91,0;", -4);
        first("one lives on, one dies having it", "p60,0,99,0;p0,9,40,0;w1,0,9;", -4);
        CHECKS.promise(17, "FIRST. NONE.");
        first("both die having it", "p0,9,40,0;p0,9,40,0;w0,1,9;w1,0,9;", -4);
        WillsReadFirst x = Checks.laid("p0,9,40,0;p60,0,99,0;w0,1,9;");
        CHECKS.due("first()", x.first(), -4);
        WillsReadFirst y = Checks.laid("p0,0,40,0;p60,0,99,0;w0,1,9;");
        CHECKS.due("first() without help", y.first(), 0);
        y.help(0, 30, 9);
        CHECKS.due("first() behind help", y.first(), -4);
    }

    private static void longest(String text, int who, int age) {
        WillsReadFirst x = Checks.laid(text);
        CHECKS.due("longest(0) of " + text, x.longest(0), who);
        CHECKS.due("longest(1) of " + text, x.longest(1), age);
    }

    private static void longest() {
        CHECKS.promise(18, "LONGEST: who gets oldest,");
        longest("p0,0,30,0;p9,0,40,0;p3,0,39,0;", 1, 40);
        longest("p0,9,99,0;p0,0,20,0;w0,1,9;", 1, 20);
        longest("p50,0,21,0;p0,0,20,0;", 0, 21);
        longest("p0,0,20,0;", 0, 20);
        longest("p51,0,99,0;p0,0,98,0;", 0, 99);
        CHECKS.promise(18, "LONGEST: who (what = 0), how old (1).");
        longest("p0,0,20,0;p0,0,20,0;p0,0,20,0;p0,0,20,0;p0,0,20,0;p0,0,21,0;", 5, 21);
    }

    private static void longestOfSeveral() {
        CHECKS.promise(18, "of several the lowest;");
        longest("p0,0,30,0;p9,0,40,0;p3,0,40,0;", 1, 40);
        longest("p0,0,20,0;p60,0,20,0;", 0, 20);
        longest("p60,0,99,0;p0,0,90,0;", 0, 90);
        longest("p0,0,90,0;p60,0,99,0;", 0, 90);
    }

    private static void longestOfThoseWhoDoNotDie() {
        CHECKS.promise(18, "how old (those who do not die are 150 less B).");
        longest("p60,0,99,0;p0,0,89,0;", 0, 90);
        longest("p60,0,99,0;p0,0,91,0;", 1, 91);
        longest("p52,0,99,0;", 0, 98);
        longest("p60,0,91,0;p59,0,99,0;", 1, 91);
        longest("p60,0,90,0;p60,0,91,0;", 0, 90);
    }

    private static void longestOfWrongNumbers() {
        CHECKS.promise(18, "BAD.");
        WillsReadFirst x = new WillsReadFirst();
        for (int what : Checks.outside(0, 1)) {
            CHECKS.due("longest(" + what + ")", x.longest(what), -1);
        }
    }
}
