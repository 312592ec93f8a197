/** Promises 2 to 7: write, wipe, fault, lay, person, bequest. */
public final class BooksTest {
    private static final Checks CHECKS = new Checks("BooksTest");

    public static void main(String[] args) {
        checkWrite();
        checkWipe();
        checkItemsThatAreSo();
        checkItemsThatAreNot();
        checkPlaceOfFault();
        checkHowMany();
        checkLay();
        checkLayClears();
        checkLayBehindQuestions();
        checkLayRefused();
        checkPerson();
        checkBequest();
        CHECKS.finish();
    }

    private static void checkWrite() {
        WillsReadFirst x = new WillsReadFirst();
        int[] wrong = {31, 127, 0, -1, 10, 128, 255, 112 + 256, 112 + 65536, Integer.MIN_VALUE, Integer.MAX_VALUE};
        for (int letter : wrong) {
            CHECKS.due("write(" + letter + ")", x.write(letter), -1);
        }
        CHECKS.due("letters behind wrong ones", x.count(6), 0);
        for (int letter = 32; letter <= 126; letter++) {
            CHECKS.due("write(" + letter + ")", x.write(letter), letter - 31);
        }
        for (int length = 96; length <= 200; length++) {
            CHECKS.due("write('a') as letter " + length, x.write('a'), length);
        }
        CHECKS.due("write('a') into a full text", x.write('a'), -3);
        CHECKS.due("write(31) into a full text", x.write(31), -1);
        CHECKS.due("letters of a full text", x.count(6), 200);
    }

    private static void checkWipe() {
        WillsReadFirst x = Checks.written("p0,1,20,0;");
        CHECKS.due("wipe()", x.wipe(), 10);
        CHECKS.due("wipe() again", x.wipe(), 0);
        CHECKS.due("count(6) behind wipe", x.count(6), 0);
        CHECKS.due("lay() of what was wiped", x.lay(), -2);
        CHECKS.due("persons behind wipe", x.count(0), 4);
        CHECKS.due("write('p') behind wipe", x.write('p'), 1);
        for (int n = 0; n < 250; n++) {
            x.write(' ');
        }
        CHECKS.due("wipe() of a full text", x.wipe(), 200);
    }

    private static void fault(String text, int want) {
        CHECKS.due("fault() of " + text, Checks.written(text).fault(), want);
    }

    private static void checkItemsThatAreSo() {
        String people = "p0,1,20,0;p1,1,20,0;";
        String[] texts = {
            "", "p0,0,20,0;", "p60,9,99,3;", "p00,00,20,00;", "p07,09,99,03;", "z0;", "z99;", "z00;", "z1;z2;z3;",
            people + "w0,1,1;", people + "w1,0,99;", people + "w00,01,01;", people + "g0,0;", people + "g1,99;",
            people + "g1,9;g1,8;", "p0,1,20,0;g0,1;p1,1,20,0;w0,1,1;z5;p2,1,20,0;w2,0,5;",
        };
        for (String text : texts) {
            fault(text, -4);
        }
    }

    private static void checkItemsThatAreNot() {
        String[] alone = {
            "p61,1,20,0;", "p0,10,20,0;", "p0,1,19,0;", "p0,1,20,4;", "p100,1,20,0;", "p0,1,100,0;", "p0,1,020,0;",
            "p0,1,20;", "p0,1,20,0,0;", "p0,1,20,0", "p0,1,20,", "p", "p;", "p,1,20,0;", "p0,,20,0;", "p0.1,20,0;",
            "p 0,1,20,0;", "p0 ,1,20,0;", "p-1,1,20,0;", "p+1,1,20,0;", "P0,1,20,0;", ";", " ", "0", ",",
            "x1;", "w0,1,5;", "g0,5;", "z;", "z100;", "z1,2;", "z1", "z", "q0,1,20,0;", "z1:", "z/;", "z1/;", "z:;",
        };
        for (String text : alone) {
            fault(text, 0);
        }
        String people = "p0,1,20,0;p1,1,20,0;";
        String[] behind = {
            "w0,0,5;", "w1,1,5;", "w0,2,5;", "w2,0,5;", "w0,1,0;", "w0,1,00;", "w0,1,100;", "w0,1;", "w0,1,5,5;",
            "w0,1,5", "g2,5;", "g0,100;", "g0;", "g0,1,1;", "g0,5", " ", ";", "w0,99,5;", "w99,0,5;", "g99,5;",
            "p0,1,20,0,", "x",
        };
        for (String text : behind) {
            fault(people + text, 20);
        }
    }

    private static void checkPlaceOfFault() {
        fault("p0,1,20,0;w0,1,5;p1,1,20,0;", 10);
        fault("p0,1,20,0;g1,5;p1,1,20,0;", 10);
        fault("z1;;", 3);
        fault("z1;z2;zz;", 6);
        fault("z1;p0,1,20,0;p61,1,20,0;q", 13);
        fault("z1; z2;", 3);
        WillsReadFirst x = Checks.written("z1;z");
        CHECKS.due("fault() of an item half written", x.fault(), 3);
        Checks.write(x, "2;");
        CHECKS.due("fault() of the item fully written", x.fault(), -4);
        CHECKS.due("fault() again", x.fault(), -4);
        StringBuilder full = new StringBuilder("z1;z1");
        for (int n = 0; n < 65; n++) {
            full.append(";z1");
        }
        fault(full.toString(), 198);
        fault(full.substring(0, 198), -4);
    }

    private static void checkHowMany() {
        StringBuilder text = new StringBuilder();
        for (int n = 0; n < 6; n++) {
            text.append("p0,1,20,0;");
        }
        fault(text.toString(), -4);
        fault(text + "p0,1,20,0;", 60);
        fault(text + "w5,0,1;", -4);
        fault(text + "w6,0,1;", 60);
        for (int n = 0; n < 9; n++) {
            text.append("w0,1,5;");
        }
        fault(text.toString(), -4);
        fault(text + "w0,1,5;", 123);
        fault(text + "g0,1;z1;w1,0,5;", 131);
        WillsReadFirst x = Checks.laid(text.toString());
        CHECKS.due("persons of the fullest", x.count(0), 6);
        CHECKS.due("bequests of the fullest", x.count(1), 9);
        CHECKS.due("what is left by 9", x.person(0, 5), 45);
    }

    private static void checkLay() {
        WillsReadFirst x = Checks.written("p60,9,99,3;g0,7;p3,1,20,0;w1,0,99;g0,8;w0,1,1;z5;");
        CHECKS.due("lay()", x.lay(), 2);
        CHECKS.due("THE TEXT stays", x.count(6), 49);
        CHECKS.due("lay() again", x.lay(), 2);
        CHECKS.due("bequests laid", x.count(1), 2);
        CHECKS.due("the last gift counts", x.person(0, 4), 8);
        CHECKS.due("without a gift", x.person(1, 4), 0);
        CHECKS.due("a gift can be taken back", Checks.laid("p0,1,20,0;g0,7;g0,0;").person(0, 4), 0);
        x.wipe();
        CHECKS.due("what is laid stays without its text", x.count(0), 2);
        Checks.write(x, "p1,2,30,1;");
        CHECKS.due("lay() of another", x.lay(), 1);
        CHECKS.due("gift of another", x.person(0, 4), 0);
        CHECKS.due("bequests of another", x.count(1), 0);
        CHECKS.due("second person of another", x.person(1, 0), -1);
        checkLastSeed();
    }

    private static void checkLastSeed() {
        WillsReadFirst last = Checks.laid("z3;p0,9,99,1;z8;");
        WillsReadFirst eight = Checks.laid("p0,9,99,1;z8;");
        WillsReadFirst three = Checks.laid("p0,9,99,1;z3;");
        WillsReadFirst none = Checks.laid("p0,9,99,1;");
        WillsReadFirst zero = Checks.laid("z5;z0;p0,9,99,1;");
        boolean differs = false;
        for (int year = 0; year < 99; year++) {
            CHECKS.due("the last seed, coins(0, " + year + ")", last.coins(0, year), eight.coins(0, year));
            CHECKS.due("no seed, coins(0, " + year + ")", none.coins(0, year), zero.coins(0, year));
            differs |= three.coins(0, year) != eight.coins(0, year);
        }
        CHECKS.isTrue("seeds differ", differs);
    }

    /** A question ahead of lay may leave nothing of what it tried in what is laid. */
    private static void checkLayBehindQuestions() {
        WillsReadFirst x = busy();
        x.limits(50);
        x.wipe();
        Checks.write(x, "p0,9,99,1;");
        CHECKS.due("lay() behind a question", x.lay(), 1);
        CHECKS.due("count(2) behind a question", x.count(2), 0);
        CHECKS.due("person(0, 4) behind a question", x.person(0, 4), 0);
        WillsReadFirst fresh = Checks.laid("p0,9,99,1;");
        for (int year = 0; year <= 99; year++) {
            CHECKS.due("coins(0, " + year + ") behind a question", x.coins(0, year), fresh.coins(0, year));
        }
        x.generations(55, 0);
        x.fault();
        CHECKS.due("coins(0, 98) behind more", x.coins(0, 98), fresh.coins(0, 98));
    }

    private static WillsReadFirst busy() {
        WillsReadFirst x = new WillsReadFirst();
        x.help(0, 0, 9);
        x.reword(0, 9);
        x.seen(0, 0, 0);
        x.keep();
        x.keep();
        return x;
    }

    private static void checkLayClears() {
        WillsReadFirst x = busy();
        Checks.write(x, "p0,1,20,0;");
        CHECKS.due("lay() over a busy one", x.lay(), 1);
        for (int what = 2; what <= 5; what++) {
            CHECKS.due("count(" + what + ") behind lay", x.count(what), 0);
        }
        CHECKS.due("coins(0, 0) without help", x.coins(0, 0), 0);
        CHECKS.due("undo() behind lay", x.undo(), -2);
        CHECKS.due("back() behind lay", x.back(), -2);
        CHECKS.due("forget() behind lay", x.forget(), 0);
    }

    private static void checkLayRefused() {
        String[] texts = {"", "z5;", "p0,1,20,0", "p0,1,20,0;w0,1,5;", "p0,1,20,0;x"};
        for (String text : texts) {
            WillsReadFirst x = busy();
            int dies = x.dies(1);
            Checks.write(x, text);
            CHECKS.due("lay() of " + text, x.lay(), -2);
            int[] counts = {4, 5, 1, 1, 2, 2, text.length()};
            for (int what = 0; what < counts.length; what++) {
                CHECKS.due("count(" + what + ") behind lay() of " + text, x.count(what), counts[what]);
            }
            CHECKS.due("bequest(0, 2) behind lay() of " + text, x.bequest(0, 2), 9);
            CHECKS.due("dies(1) behind lay() of " + text, x.dies(1), dies);
        }
    }

    private static void checkPerson() {
        WillsReadFirst x = Checks.laid("p60,9,99,3;p0,0,20,0;p5,4,31,2;g2,99;w2,0,40;w2,1,50;w1,2,7;");
        int[][] persons = {{60, 9, 99, 3, 0, 0}, {0, 0, 20, 0, 0, 7}, {5, 4, 31, 2, 99, 90}};
        for (int i = 0; i < 3; i++) {
            for (int what = 0; what < 6; what++) {
                CHECKS.due("person(" + i + ", " + what + ")", x.person(i, what), persons[i][what]);
            }
        }
        int[][] wrong = {{-1, 0}, {3, 0}, {6, 0}, {0, -1}, {0, 6}, {Integer.MAX_VALUE, 1}, {Integer.MIN_VALUE, 1},
            {1, Integer.MAX_VALUE}, {1, Integer.MIN_VALUE}};
        for (int[] w : wrong) {
            CHECKS.due("person(" + w[0] + ", " + w[1] + ")", x.person(w[0], w[1]), -1);
        }
        x.reword(1, 99);
        CHECKS.due("person(2, 5) behind reword", x.person(2, 5), 139);
        x.pass(1, 0);
        CHECKS.due("person(2, 5) behind pass", x.person(2, 5), 139);
    }

    private static void checkBequest() {
        WillsReadFirst x = Checks.laid("p0,1,20,0;p0,0,20,0;w1,0,99;w0,1,1;");
        int[][] bequests = {{1, 0, 99}, {0, 1, 1}};
        for (int k = 0; k < 2; k++) {
            for (int what = 0; what < 3; what++) {
                CHECKS.due("bequest(" + k + ", " + what + ")", x.bequest(k, what), bequests[k][what]);
            }
        }
        int[][] wrong = {{-1, 0}, {2, 0}, {9, 0}, {0, -1}, {0, 3}, {Integer.MAX_VALUE, 1}, {Integer.MIN_VALUE, 1},
            {1, Integer.MAX_VALUE}, {1, Integer.MIN_VALUE}};
        for (int[] w : wrong) {
            CHECKS.due("bequest(" + w[0] + ", " + w[1] + ")", x.bequest(w[0], w[1]), -1);
        }
        CHECKS.due("bequest(0, 0) of nobody's", Checks.laid("p0,1,20,0;").bequest(0, 0), -1);
    }
}
