/** Promises 5 to 7: lay, person, bequest. */
public final class LaidTest {
    private static final Checks CHECKS = new Checks("LaidTest");
    private static final String TWO = "p0,1,20,0;p1,1,20,0;";

    public static void main(String[] args) {
        howManyPersons();
        textStays();
        nothingOfBefore();
        nothingSeenUndoneKept();
        nothingOfQuestions();
        refused();
        lastGiftOfEach();
        lastSeed();
        person();
        leavesTogether();
        personsThatAreNone();
        bequest();
        bequestsThatAreNone();
        CHECKS.finish();
    }

    private static void howManyPersons() {
        CHECKS.promise(5, "LAID: how many PERSONS;");
        for (int people = 1; people <= 6; people++) {
            WillsReadFirst x = Checks.written("p0,1,20,0;".repeat(people) + "z4;");
            CHECKS.due("lay() of " + people, x.lay(), people);
            CHECKS.due("count(0) of " + people, x.count(0), people);
            CHECKS.due("count(1) of none", x.count(1), 0);
        }
        WillsReadFirst fullest = Checks.laid("p0,1,20,0;".repeat(6) + "w5,4,5;".repeat(9) + "g5,1;z1;");
        CHECKS.due("count(0) of the fullest", fullest.count(0), 6);
        CHECKS.due("count(1) of the fullest", fullest.count(1), 9);
        CHECKS.due("person(5, 5) of the fullest", fullest.person(5, 5), 45);
    }

    private static void textStays() {
        CHECKS.promise(5, "(THE TEXT stays)");
        WillsReadFirst x = Checks.written(TWO + "w0,1,7;");
        CHECKS.due("lay()", x.lay(), 2);
        CHECKS.due("count(6) behind lay", x.count(6), 27);
        CHECKS.due("fault() behind lay", x.fault(), -4);
        x.reword(0, 9);
        CHECKS.due("lay() again", x.lay(), 2);
        CHECKS.due("bequest(0, 2), laid again", x.bequest(0, 2), 7);
        Checks.write(x, "w1,0,3;");
        CHECKS.due("count(1), written but not laid", x.count(1), 1);
        CHECKS.due("lay() of the longer text", x.lay(), 2);
        CHECKS.due("count(1) of the longer text", x.count(1), 2);
        CHECKS.due("wipe()", x.wipe(), 34);
        CHECKS.due("count(1), what is laid stays without its text", x.count(1), 2);
    }

    private static WillsReadFirst busy() {
        WillsReadFirst x = new WillsReadFirst();
        x.help(0, 0, 9);
        x.reword(0, 9);
        x.seen(0, 0, 0);
        x.keep();
        x.keep();
        return x;
    }

    private static void nothingOfBefore() {
        CHECKS.promise(5, "no HELP,");
        WillsReadFirst x = busy();
        Checks.write(x, "p0,1,20,0;");
        CHECKS.due("lay() over another", x.lay(), 1);
        CHECKS.due("count(2)", x.count(2), 0);
        CHECKS.due("coins(0, 0) without help", x.coins(0, 0), 0);
        CHECKS.due("help, the first one now", x.help(0, 1, 1), 1);
        CHECKS.promise(5, "LAID: how many PERSONS;");
        CHECKS.due("count(1) of another", x.count(1), 0);
        CHECKS.due("person(1, 0) of another", x.person(1, 0), -1);
        CHECKS.due("bequest(0, 0) of another", x.bequest(0, 0), -1);
        WillsReadFirst y = Checks.laid("p0,1,20,0;g0,7;");
        y.wipe();
        Checks.write(y, "p0,1,20,0;");
        y.lay();
        CHECKS.due("person(0, 4), the gift of before is not there", y.person(0, 4), 0);
    }

    private static void nothingSeenUndoneKept() {
        CHECKS.promise(5, "nothing SEEN, UNDONE, KEPT");
        WillsReadFirst x = busy();
        Checks.write(x, "p0,1,20,0;");
        x.lay();
        int[] counts = {1, 0, 0, 0, 0, 0, 10};
        for (int what = 0; what < counts.length; what++) {
            CHECKS.due("count(" + what + ") behind lay", x.count(what), counts[what]);
        }
        CHECKS.due("forget() behind lay", x.forget(), 0);
        CHECKS.due("undo() behind lay", x.undo(), -2);
        CHECKS.due("back() behind lay", x.back(), -2);
        CHECKS.due("keep() behind lay", x.keep(), 1);
        CHECKS.due("seen behind lay", x.seen(0, 0, 5), 1);
        WillsReadFirst same = Checks.laid(TWO + "w0,1,7;");
        same.seen(0, 15, 999);
        same.reword(0, 8);
        same.keep();
        CHECKS.due("lay() of the same text", same.lay(), 2);
        CHECKS.due("kinds(0), nothing seen", same.kinds(0), 15);
        CHECKS.due("undo() behind lay of the same", same.undo(), -2);
        CHECKS.due("back() behind lay of the same", same.back(), -2);
    }

    /** A question ahead of lay may leave nothing of what it tried in what is laid. */
    private static void nothingOfQuestions() {
        CHECKS.promise(5, "LAID: how many PERSONS;");
        WillsReadFirst x = busy();
        x.limits(50);
        x.wipe();
        Checks.write(x, "p0,9,99,1;");
        CHECKS.due("lay() behind a question", x.lay(), 1);
        CHECKS.due("person(0, 4) behind a question", x.person(0, 4), 0);
        WillsReadFirst fresh = Checks.laid("p0,9,99,1;");
        for (int year = 0; year <= 99; year++) {
            CHECKS.due("coins(0, " + year + ") behind a question", x.coins(0, year), fresh.coins(0, year));
        }
        x.generations(55, 0);
        x.fault();
        CHECKS.due("coins(0, 98) behind more", x.coins(0, 98), fresh.coins(0, 98));
    }

    private static void refused() {
        CHECKS.promise(5, "LAID is a TEXT without FAULT, of a PERSON at least (NO else;");
        String[] texts = {"", "z5;", "p0,1,20,0", "w0,1,5;", TWO + "w0,0,5;", "p0,1,20,0;x", "p0,1,20,0;z", TWO + "g2,1;",
            "p0,1,20,0;".repeat(7), TWO + "w0,1,5;".repeat(10)};
        for (String text : texts) {
            WillsReadFirst x = busy();
            int dies = x.dies(1);
            Checks.write(x, text);
            CHECKS.due("lay() of " + text, x.lay(), -2);
            int[] counts = {4, 5, 1, 1, 2, 2, text.length()};
            for (int what = 0; what < counts.length; what++) {
                CHECKS.due("count(" + what + ") behind lay() of " + text, x.count(what), counts[what]);
            }
            CHECKS.due("bequest(0, 2) behind lay() of " + text, x.bequest(0, 2), 9);
            CHECKS.due("dies(1) behind lay() of " + text, x.dies(1), dies);
        }
        CHECKS.promise(5, "NO.");
        WillsReadFirst y = Checks.written("p0,1,20,0");
        CHECKS.due("lay() of half a person", y.lay(), -2);
        y.write(';');
        CHECKS.due("lay() of a whole one", y.lay(), 1);
    }

    private static void lastGiftOfEach() {
        CHECKS.promise(6, "has N (0 to 99) coins at birth (0 without; the last one of each)");
        WillsReadFirst x = Checks.laid(TWO + "p0,1,20,0;g0,7;g1,99;g0,8;g1,0;");
        CHECKS.due("person(0, 4), the last one of two", x.person(0, 4), 8);
        CHECKS.due("person(1, 4), the last one is 0", x.person(1, 4), 0);
        CHECKS.due("person(2, 4), without a gift", x.person(2, 4), 0);
        CHECKS.due("person(0, 4), the most", Checks.laid("p0,1,20,0;g0,99;").person(0, 4), 99);
        CHECKS.due("coins(0, 0), not both", x.coins(0, 0), 8);
        CHECKS.due("coins(1, 1), taken back", x.coins(1, 1), 0);
    }

    private static void lastSeed() {
        CHECKS.promise(5, "zS the SEED of draws, S (0 to 99; 0 without; of several the last one counts)");
        WillsReadFirst last = Checks.laid("z3;p0,9,99,1;z8;");
        WillsReadFirst eight = Checks.laid("p0,9,99,1;z8;");
        WillsReadFirst three = Checks.laid("p0,9,99,1;z3;");
        WillsReadFirst none = Checks.laid("p0,9,99,1;");
        WillsReadFirst zero = Checks.laid("z5;z0;p0,9,99,1;");
        boolean differs = false;
        for (int year = 0; year < 99; year++) {
            CHECKS.due("the last seed, coins(0, " + year + ")", last.coins(0, year), eight.coins(0, year));
            CHECKS.due("no seed, coins(0, " + year + ")", none.coins(0, year), zero.coins(0, year));
            differs |= three.coins(0, year) != eight.coins(0, year);
        }
        CHECKS.isTrue("seeds differ", differs);
        WillsReadFirst again = Checks.laid("p0,9,99,1;z8;");
        again.wipe();
        Checks.write(again, "p0,9,99,1;");
        again.lay();
        for (int year = 10; year < 30; year++) {
            CHECKS.due("no seed behind a seed, coins(0, " + year + ")", again.coins(0, year), none.coins(0, year));
        }
    }

    private static void person() {
        CHECKS.promise(6, "Of a PERSON: B (what = 0), W (1), LIMIT (2), KIND (3), GIFT (4), what he leaves together (5).");
        WillsReadFirst x = Checks.laid("p60,9,99,3;p0,0,20,0;p5,4,31,2;p7,8,50,1;g2,99;w2,0,40;w2,1,50;w1,2,7;");
        int[][] persons = {{60, 9, 99, 3, 0, 0}, {0, 0, 20, 0, 0, 7}, {5, 4, 31, 2, 99, 90}, {7, 8, 50, 1, 0, 0}};
        for (int i = 0; i < persons.length; i++) {
            for (int what = 0; what < 6; what++) {
                CHECKS.due("person(" + i + ", " + what + ")", x.person(i, what), persons[i][what]);
            }
        }
    }

    private static void leavesTogether() {
        CHECKS.promise(6, "what he leaves together (5)");
        CHECKS.due("person(0, 5), the most", Checks.laid(TWO + "w0,1,99;".repeat(9)).person(0, 5), 891);
        WillsReadFirst x = Checks.laid(TWO + "p0,1,20,0;w0,1,40;w0,2,50;w1,0,3;");
        CHECKS.due("person(0, 5)", x.person(0, 5), 90);
        CHECKS.due("person(2, 5), of who leaves nothing", x.person(2, 5), 0);
        x.reword(1, 99);
        CHECKS.due("person(0, 5) behind reword", x.person(0, 5), 139);
        x.pass(1, 1);
        CHECKS.due("person(0, 5) behind pass", x.person(0, 5), 139);
        CHECKS.due("person(1, 5) behind pass", x.person(1, 5), 3);
        x.undo();
        x.undo();
        CHECKS.due("person(0, 5) behind undo", x.person(0, 5), 90);
    }

    private static void personsThatAreNone() {
        CHECKS.promise(6, "BAD: a number is none that is told (PERSONS, BEQUESTS: such as there are).");
        WillsReadFirst x = new WillsReadFirst();
        for (int i : Checks.outside(0, 3)) {
            CHECKS.due("person(" + i + ", 0)", x.person(i, 0), -1);
            CHECKS.due("person(" + i + ", 5)", x.person(i, 5), -1);
        }
        for (int what : Checks.outside(0, 5)) {
            CHECKS.due("person(0, " + what + ")", x.person(0, what), -1);
        }
        CHECKS.due("person(3, 5), the last one", x.person(3, 5), 30);
        Checks.write(x, "p0,1,20,0;");
        x.lay();
        CHECKS.due("person(1, 0), there is one no more", x.person(1, 0), -1);
        CHECKS.promise(6, "BAD.");
        CHECKS.due("person(4, 6)", x.person(4, 6), -1);
        WillsReadFirst six = Checks.laid("p0,1,20,0;".repeat(6));
        CHECKS.due("person(5, 2) of six", six.person(5, 2), 20);
        CHECKS.due("person(6, 2) of six", six.person(6, 2), -1);
    }

    private static void bequest() {
        CHECKS.promise(7, "Of a BEQUEST: who leaves it (what = 0), to whom it goes (1), N (2).");
        WillsReadFirst x = Checks.laid(TWO + "p0,1,20,0;w1,0,99;w0,1,1;w2,1,50;");
        int[][] bequests = {{1, 0, 99}, {0, 1, 1}, {2, 1, 50}};
        for (int k = 0; k < bequests.length; k++) {
            for (int what = 0; what < 3; what++) {
                CHECKS.due("bequest(" + k + ", " + what + ")", x.bequest(k, what), bequests[k][what]);
            }
        }
        WillsReadFirst most = Checks.laid(TWO + "w0,1,5;".repeat(8) + "w1,0,6;");
        CHECKS.due("bequest(8, 0), the last one of nine", most.bequest(8, 0), 1);
        CHECKS.due("bequest(8, 2), the last one of nine", most.bequest(8, 2), 6);
    }

    private static void bequestsThatAreNone() {
        CHECKS.promise(7, "BAD: a number is none that is told (PERSONS, BEQUESTS: such as there are).");
        WillsReadFirst x = new WillsReadFirst();
        for (int k : Checks.outside(0, 4)) {
            CHECKS.due("bequest(" + k + ", 0)", x.bequest(k, 0), -1);
            CHECKS.due("bequest(" + k + ", 2)", x.bequest(k, 2), -1);
        }
        for (int what : Checks.outside(0, 2)) {
            CHECKS.due("bequest(0, " + what + ")", x.bequest(0, what), -1);
        }
        CHECKS.due("bequest(4, 2), the last one", x.bequest(4, 2), 30);
        Checks.write(x, TWO + "w0,1,5;");
        x.lay();
        CHECKS.due("bequest(1, 0), there is one no more", x.bequest(1, 0), -1);
        CHECKS.promise(7, "BAD.");
        CHECKS.due("bequest(5, 3)", x.bequest(5, 3), -1);
        CHECKS.due("bequest(0, 0), there are none", Checks.laid("p0,1,20,0;").bequest(0, 0), -1);
    }
}
