/** Promises 2 to 4: write, wipe, fault. */
public final class TextTest {
    private static final Checks CHECKS = new Checks("TextTest");
    private static final String TWO = "p0,1,20,0;p1,1,20,0;";
    private static final String SIX = "p0,1,20,0;p0,1,20,0;p0,1,20,0;p0,1,20,0;p0,1,20,0;p0,1,20,0;";
    private static final String NINE = "w0,1,5;w0,1,5;w0,1,5;w0,1,5;w0,1,5;w0,1,5;w0,1,5;w0,1,5;w0,1,5;";

    public static void main(String[] args) {
        letters();
        lettersThatAreNone();
        lettersOfAFullText();
        twoHundredLetters();
        wipe();
        wipedIsEmpty();
        noFault();
        placeOfTheFault();
        itemsOneBehindTheOther();
        lettersOfItems();
        figures();
        partedByCommas();
        endOfAnItem();
        persons();
        sixPersons();
        bequests();
        toldAhead();
        nineBequests();
        gifts();
        seeds();
        faultChangesNothing();
        CHECKS.finish();
    }

    private static void letters() {
        CHECKS.promise(2, "A letter (32 to 126, as in ASCII) comes behind THE TEXT: how long it is.");
        WillsReadFirst x = new WillsReadFirst();
        for (int letter = 32; letter <= 126; letter++) {
            CHECKS.due("write(" + letter + ")", x.write(letter), letter - 31);
        }
        WillsReadFirst y = Checks.written("z1;g");
        CHECKS.due("fault(), g comes behind z1;", y.fault(), 3);
    }

    private static void lettersThatAreNone() {
        CHECKS.promise(2, "BAD");
        WillsReadFirst x = Checks.written("ab");
        for (int letter : Checks.outside(32, 126)) {
            CHECKS.due("write(" + letter + ")", x.write(letter), -1);
        }
        CHECKS.due("write(0)", x.write(0), -1);
        CHECKS.due("write(10)", x.write(10), -1);
        CHECKS.due("count(6) behind wrong ones", x.count(6), 2);
        CHECKS.due("write('c') behind wrong ones", x.write('c'), 3);
    }

    private static WillsReadFirst full() {
        StringBuilder text = new StringBuilder(SIX);
        for (int n = 0; n < 35; n++) {
            text.append("z10;");
        }
        return Checks.written(text.toString());
    }

    private static void lettersOfAFullText() {
        CHECKS.promise(2, "FULL.");
        WillsReadFirst x = full();
        CHECKS.due("write('a'), letter 201", x.write('a'), -3);
        CHECKS.due("write('a') again", x.write('a'), -3);
        CHECKS.due("count(6) of a full text", x.count(6), 200);
        CHECKS.due("fault(), the letters refused are not there", x.fault(), -4);
        CHECKS.due("write(31), BAD comes ahead of FULL", x.write(31), -1);
        CHECKS.due("write(127), BAD comes ahead of FULL", x.write(127), -1);
        CHECKS.due("lay() of a full text", x.lay(), 6);
        x.wipe();
        CHECKS.due("write('a') behind wipe", x.write('a'), 1);
    }

    private static void twoHundredLetters() {
        CHECKS.promise(2, "A TEXT is letters (200 at most)");
        WillsReadFirst x = new WillsReadFirst();
        for (int length = 1; length <= 200; length++) {
            CHECKS.due("write(';')", x.write(';'), length);
        }
        CHECKS.due("write(';'), one too many", x.write(';'), -3);
        CHECKS.promise(4, "A TEXT is letters (200 at most)");
        CHECKS.due("fault() of 200 letters that are so", full().fault(), -4);
        WillsReadFirst y = Checks.written("z1;".repeat(67));
        CHECKS.due("fault(), the last ; was too much", y.fault(), 198);
    }

    private static void wipe() {
        CHECKS.promise(3, "THE TEXT is empty: how long it was.");
        WillsReadFirst x = new WillsReadFirst();
        CHECKS.due("wipe() of an empty text", x.wipe(), 0);
        x.write('a');
        CHECKS.due("wipe() of one letter", x.wipe(), 1);
        CHECKS.due("wipe() again", x.wipe(), 0);
        Checks.write(x, TWO);
        CHECKS.due("wipe() of 20 letters", x.wipe(), 20);
        for (int n = 0; n < 250; n++) {
            x.write(' ');
        }
        CHECKS.due("wipe() of a full text", x.wipe(), 200);
        CHECKS.due("wipe() of a full text again", x.wipe(), 0);
    }

    private static void wipedIsEmpty() {
        CHECKS.promise(3, "THE TEXT is empty: how long it was.");
        WillsReadFirst x = Checks.written("z1;xp0,1,20,0;");
        x.wipe();
        CHECKS.due("count(6) behind wipe", x.count(6), 0);
        CHECKS.due("fault() behind wipe", x.fault(), -4);
        CHECKS.due("lay() behind wipe", x.lay(), -2);
        CHECKS.due("count(0), what is laid stays", x.count(0), 4);
        CHECKS.due("count(1), what is laid stays", x.count(1), 5);
        Checks.write(x, "p60");
        CHECKS.due("count(6) behind wipe and write", x.count(6), 3);
        CHECKS.due("fault(), letters wiped do not come back", x.fault(), 0);
        Checks.write(x, ",1,20,0;");
        CHECKS.due("fault() of a whole person", x.fault(), -4);
    }

    private static void so(String... texts) {
        for (String text : texts) {
            CHECKS.due("fault() of " + text, Checks.written(text).fault(), -4);
        }
    }

    /** Behind texts that are so the first item of each is at fault. */
    private static void notSo(String ahead, String... items) {
        for (String item : items) {
            CHECKS.due("fault() of " + ahead + item, Checks.written(ahead + item).fault(), ahead.length());
        }
    }

    private static void noFault() {
        CHECKS.promise(4, "FAULT. NONE.");
        so("", TWO, SIX + NINE, "z7;", "z1;z2;z3;", "p0,1,20,0;g0,1;p1,1,20,0;w0,1,1;z5;p2,1,20,0;w2,0,5;",
                "p0,3,60,0;p5,4,50,1;p10,2,70,2;p12,5,40,3;w0,1,40;w0,2,20;w1,3,60;w2,0,15;w3,2,30;g2,5;z7;");
    }

    private static void placeOfTheFault() {
        CHECKS.promise(4, "FAULT: the place (from 0 on) of the first letter of the first ITEM that is not so.");
        notSo("", "x", "p61,1,20,0;", "p0,1,20,4;", "z100;", "p0,1,20,0");
        notSo("z1;", ";", "zz;", "p0,1,20,9;", "z2");
        notSo("z1;p0,1,20,0;", "p61,1,20,0;q", "g1,5;", "w0,1,5;p1,1,20,0;");
        notSo("z1;z2;", "2;x;");
        notSo(TWO, "w0,1,100;w0,0,5;p61,1,20,0;x");
        WillsReadFirst x = Checks.written("z1;z");
        CHECKS.due("fault() of an item half written", x.fault(), 3);
        Checks.write(x, "2;");
        CHECKS.due("fault() of the item fully written", x.fault(), -4);
        Checks.write(x, "!z");
        CHECKS.due("fault() of one more", x.fault(), 6);
        CHECKS.due("fault() again", x.fault(), 6);
    }

    private static void itemsOneBehindTheOther() {
        CHECKS.promise(4, "ITEMS one behind the other, each a letter, then numbers (one or two figures)"
                + " parted by , and a ; behind the last one:");
        so("z1;z2;", "p0,1,20,0;z2;p0,1,20,0;");
        notSo("z1;", " z2;", ",z2;", ";z2;");
        notSo("z1;z2;", " ", ";", ",");
        notSo("", " z2;", ";z2;");
    }

    private static void lettersOfItems() {
        CHECKS.promise(4, "each a letter,");
        notSo("", "P0,1,20,0;", "Z1;", "q0,1,20,0;", "o0,1,20,0;", "y1;", "{1;", "x1;", "1;", "0,1,20,0;", ";", ",", " ",
                "~", "pp0,1,20,0;", "zz1;", "a1;", "s1;", "h1;", "h5,5,5;");
        notSo(TWO, "W0,1,5;", "v0,1,5;", "x0,1,5;", "G0,5;", "f0,5;", "h0,1,5;", "b0,1,5;");
    }

    private static void figures() {
        CHECKS.promise(4, "then numbers (one or two figures)");
        so("z0;", "z9;", "z10;", "z99;", "z00;", "z09;", "p00,01,20,00;", "p07,09,99,03;", TWO + "w00,01,01;g01,00;");
        notSo("", "z;", "z000;", "z001;", "z100;", "z/;", "z:;", "z1/;", "z1:;", "z-1;", "z+1;", "z 1;", "z1 ;", "za;",
                "z1a;", "z0x1;", "p,1,20,0;", "p0,,20,0;", "p0,1,,0;", "p0,1,20,;", "p000,1,20,0;", "p0,001,20,0;",
                "p0,1,020,0;", "p0,1,20,000;", "p 0,1,20,0;", "p0 ,1,20,0;", "p-1,1,20,0;", "p;", "p,,,;");
        notSo(TWO, "w000,1,5;", "w0,001,5;", "w0,1,005;", "w,1,5;", "w0,,5;", "w0,1,;", "g000,5;", "g0,005;", "g,5;",
                "g0,;", "w;", "g;");
    }

    private static void partedByCommas() {
        CHECKS.promise(4, "parted by ,");
        notSo("", "p0.1,20,0;", "p0,1.20,0;", "p0,1,20.0;", "p0;1,20,0;", "p0,1;20,0;", "p0,1,20;0;", "p0,1,20;",
                "p0,1,20,0,0;", "p0,1,20,0,;", "p0 1 20 0;", "p0,,1,20,0;", "p,0,1,20,0;", "z1,2;", "z1,;", "z,1;",
                "p0-1,20,0;", "p0+1,20,0;");
        notSo(TWO, "w0,1;", "w0,1,5,5;", "w0.1,5;", "w0,1.5;", "w0;1,5;", "w0,1,5,;", "w01,5;", "g0;", "g0,1,1;", "g0.1;",
                "g0,1,;");
    }

    private static void endOfAnItem() {
        CHECKS.promise(4, "and a ; behind the last one:");
        notSo("", "z", "z1", "z12", "z1:", "z1,", "z1 ", "z1z2;", "p", "p0", "p0,", "p0,1", "p0,1,", "p0,1,20", "p0,1,20,",
                "p0,1,20,0", "p0,1,20,0,", "p0,1,20,0:", "p0,1,20,0p1,1,20,0;");
        notSo(TWO, "w", "w0,1,5", "w0,1,5,", "w0,1,5:", "w0,1,5w0,1,5;", "g", "g0,5", "g0,5,", "g0,5g0,5;");
    }

    private static void persons() {
        CHECKS.promise(4, "pB,W,L,K a PERSON born in year B (0 to 60), who gains W (0 to 9) coins a year,"
                + " of LIMIT L (20 to 99) years, of KIND K (0 PLAIN, 1 LUCKY, 2 SLOW, 3 LATE);");
        so("p0,0,20,0;", "p60,9,99,3;", "p60,0,20,0;", "p0,9,20,0;", "p0,0,99,0;", "p0,0,20,1;", "p0,0,20,2;", "p0,0,20,3;");
        notSo("", "p61,0,20,0;", "p99,0,20,0;", "p0,10,20,0;", "p0,99,20,0;", "p0,0,19,0;", "p0,0,0,0;", "p0,0,9,0;",
                "p0,0,100,0;", "p0,0,20,4;", "p0,0,20,9;", "p0,0,20,99;");
    }

    private static void sixPersons() {
        CHECKS.promise(4, "6 at most, 0, 1, ..");
        so(SIX, SIX + "w5,0,1;", SIX + "w0,5,1;", SIX + "g5,1;", SIX + "z1;");
        notSo(SIX, "p0,1,20,0;", "p60,9,99,3;z1;", "w6,0,1;", "w0,6,1;", "g6,1;");
        notSo(SIX + NINE, "p0,1,20,0;");
    }

    private static void bequests() {
        CHECKS.promise(4, "wI,J,N a BEQUEST: PERSON I leaves N (1 to 99) coins to J (both told ahead, unlike);");
        so(TWO + "w0,1,1;", TWO + "w1,0,99;", TWO + "w0,1,1;w0,1,1;", TWO + "w0,1,1;w1,0,1;");
        notSo(TWO, "w0,1,0;", "w0,1,00;", "w0,1,100;", "w0,0,5;", "w1,1,5;");
    }

    /** Told ahead is what THE TEXT tells ahead of the item, not what is laid. */
    private static void toldAhead() {
        CHECKS.promise(4, "(both told ahead, unlike)");
        so("p0,1,20,0;p1,1,20,0;w1,0,5;p2,1,20,0;w2,1,5;w0,2,5;");
        notSo("", "w0,1,5;", "g0,5;", "w0,1,5;" + TWO, "g0,5;" + TWO);
        notSo("p0,1,20,0;", "w0,1,5;", "w1,0,5;", "w0,1,5;p1,1,20,0;", "w0,3,5;", "w3,0,5;");
        notSo(TWO, "w0,2,5;", "w2,0,5;", "w0,99,5;", "w99,0,5;", "w2,2,5;");
        CHECKS.promise(4, "gI,N a GIFT: PERSON I (told ahead) has");
        so("p0,1,20,0;g0,5;p1,1,20,0;g1,5;");
        notSo("p0,1,20,0;", "g1,5;", "g1,5;p1,1,20,0;", "g3,5;", "g99,5;");
        WillsReadFirst x = Checks.laid(SIX);
        x.wipe();
        Checks.write(x, "p0,1,20,0;w0,1,5;");
        CHECKS.due("fault(), six are laid but one is told", x.fault(), 10);
    }

    private static void nineBequests() {
        CHECKS.promise(4, "9 at most, 0, 1, ..");
        so(TWO + NINE, SIX + NINE, TWO + NINE + "p0,1,20,0;g2,3;z4;");
        notSo(TWO + NINE, "w0,1,5;", "w1,0,99;p0,1,20,0;");
        notSo(TWO + NINE + "g0,1;z1;", "w1,0,5;");
    }

    private static void gifts() {
        CHECKS.promise(4, "has N (0 to 99) coins at birth (0 without; the last one of each)");
        so(TWO + "g0,0;", TWO + "g1,99;", TWO + "g1,9;g1,8;g1,7;g0,1;");
        notSo(TWO, "g0,100;", "g0,999;");
        notSo(TWO + "g0,1;", "g0,100;");
    }

    private static void seeds() {
        CHECKS.promise(4, "zS the SEED of draws, S (0 to 99; 0 without; of several the last one counts)");
        so("z0;", "z99;", "z1;z2;z0;", TWO + "z5;", TWO);
        notSo("", "z100;", "z999;");
        notSo("z99;", "z100;");
    }

    private static void faultChangesNothing() {
        CHECKS.promise(4, "FAULT. NONE.");
        WillsReadFirst x = Checks.written("p60,9,99,3;p60,9,99,3;w0,1,9;z5;x");
        x.help(0, 7, 3);
        CHECKS.due("fault()", x.fault(), 32);
        CHECKS.due("count(0) behind fault", x.count(0), 4);
        CHECKS.due("count(1) behind fault", x.count(1), 5);
        CHECKS.due("count(2) behind fault", x.count(2), 1);
        CHECKS.due("count(6) behind fault", x.count(6), 33);
        CHECKS.due("person(0, 0) behind fault", x.person(0, 0), 0);
        CHECKS.due("coins(0, 12) behind fault", x.coins(0, 12), 12);
    }
}
