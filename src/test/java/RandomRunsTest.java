/** Runs of up to 512 calls on new objects, all answers compared with the Model's; the same runs each time. */
public final class RandomRunsTest {
    private static final Checks CHECKS = new Checks("RandomRunsTest");
    private static final int RUNS = 300;
    private static final int[] ODD_NUMBERS = {-1, -2, 4, 5, 6, 7, 9, 10, 19, 20, 60, 99, 100, 150, 151, 200, 201, 300,
        999, 1000, 65536, Integer.MAX_VALUE, Integer.MIN_VALUE, Integer.MAX_VALUE - 7, Integer.MIN_VALUE + 7};
    private static long state = 20261119L;

    private WillsReadFirst x = new WillsReadFirst();
    private Model model = new Model();
    private int calls = 0;
    private final StringBuilder story = new StringBuilder();

    public static void main(String[] args) {
        for (int run = 0; run < RUNS; run++) {
            new RandomRunsTest().run(run);
        }
        CHECKS.finish();
    }

    private static int below(int bound) {
        state = state * 6364136223846793005L + 1442695040888963407L;
        return (int) ((state >>> 33) % bound);
    }

    private void run(int run) {
        if (run % 4 != 0) {
            writeText();
            call(3);
        }
        while (calls < 480) {
            call(below(31));
            if (below(40) == 0 && calls < 270) {
                call(1);
                writeText();
                call(2);
                call(3);
            }
        }
    }

    private void writeText() {
        String text = randomText();
        for (int n = 0; n < text.length() && n < 205; n++) {
            int letter = text.charAt(n);
            compare("write(" + letter + ")", x.write(letter), model.write(letter));
        }
    }

    private static String randomText() {
        StringBuilder text = new StringBuilder();
        int people = 1 + below(6);
        for (int i = 0; i < people; i++) {
            int years = below(3) == 0 ? 20 + below(10) : 20 + below(80);
            item(text, 'p', below(below(2) == 0 ? 8 : 61), below(10), years, below(4));
        }
        int bequests = people < 2 ? 0 : below(10);
        for (int k = 0; k < bequests; k++) {
            int from = below(people);
            int to = (from + 1 + below(people - 1)) % people;
            item(text, 'w', from, to, 1 + below(below(2) == 0 ? 99 : 30));
        }
        for (int g = below(4); g > 0; g--) {
            item(text, 'g', below(people), below(100));
        }
        for (int z = below(3); z > 0; z--) {
            item(text, 'z', below(100));
        }
        if (below(4) == 0 && text.length() > 0) {
            spoil(text);
        }
        return text.toString();
    }

    private static void item(StringBuilder text, char letter, int... numbers) {
        char ahead = letter;
        for (int number : numbers) {
            text.append(ahead);
            if (number < 10 && below(12) == 0) {
                text.append('0');
            }
            text.append(number);
            ahead = ',';
        }
        text.append(';');
    }

    private static void spoil(StringBuilder text) {
        int place = below(text.length());
        switch (below(3)) {
            case 0: text.deleteCharAt(place); break;
            case 1: text.setCharAt(place, "pwgz0123456789,; /:"
                    .charAt(below(19))); break;
            default: text.insert(place, "pwgz0123456789,; /:".charAt(below(19))); break;
        }
    }

    /** Mostly a number that the document knows, now and then any other. */
    private static int some(int bound) {
        return below(15) == 0 ? ODD_NUMBERS[below(ODD_NUMBERS.length)] : below(bound);
    }

    private int who() {
        return some(Math.max(model.count(0), 1));
    }

    private int which() {
        return some(Math.max(model.count(1), 1));
    }

    private void compare(String call, int got, int want) {
        calls++;
        story.append(call).append(' ');
        CHECKS.due(call, got, want);
        if (got != want) {
            System.out.println("  behind: " + story);
        }
    }

    private void call(int method) {
        if (method < 11) {
            callBook(method);
        } else if (method < 22) {
            callYears(method);
        } else {
            callRest(method);
        }
    }

    private void callBook(int method) {
        int i = who();
        int k = which();
        int a = some(151);
        int n = some(100);
        int what = some(6);
        switch (method) {
            case 0: compare("write(" + a + ")", x.write(a), model.write(a)); break;
            case 1: if (below(3) == 0 || calls < 270) { compare("wipe()", x.wipe(), model.wipe()); } break;
            case 2: compare("fault()", x.fault(), model.fault()); break;
            case 3: compare("lay()", x.lay(), model.lay()); break;
            case 4: compare("person(" + i + "," + what + ")", x.person(i, what), model.person(i, what)); break;
            case 5: compare("bequest(" + k + "," + what + ")", x.bequest(k, what), model.bequest(k, what)); break;
            case 6: case 10: compare("reword(" + k + "," + n + ")", x.reword(k, n), model.reword(k, n)); break;
            case 7: compare("pass(" + k + "," + i + ")", x.pass(k, i), model.pass(k, i)); break;
            case 8: compare("help(" + i + "," + a + "," + n + ")", x.help(i, a, n), model.help(i, a, n)); break;
            default: compare("undo()", x.undo(), model.undo()); break;
        }
    }

    private void callYears(int method) {
        int i = who();
        int k = which();
        int a = some(151);
        int l = 20 + some(80);
        int what = some(2);
        switch (method) {
            case 11: compare("dies(" + i + ")", x.dies(i), model.dies(i)); break;
            case 12: compare("having()", x.having(), model.having()); break;
            case 13: compare("coins(" + i + "," + a + ")", x.coins(i, a), model.coins(i, a)); break;
            case 14: compare("brought(" + k + ")", x.brought(k), model.brought(k)); break;
            case 15: compare("inherited(" + i + ")", x.inherited(i), model.inherited(i)); break;
            case 16: compare("first()", x.first(), model.first()); break;
            case 17: compare("longest(" + what + ")", x.longest(what), model.longest(what)); break;
            case 18: compare("greatest(" + i + ")", x.greatest(i), model.greatest(i)); break;
            case 19: compare("needs(" + i + ")", x.needs(i), model.needs(i)); break;
            case 20: compare("mend(" + what + ")", x.mend(what), model.mend(what)); break;
            default: compare("limits(" + l + ")", x.limits(l), model.limits(l)); break;
        }
    }

    private void callRest(int method) {
        int i = who();
        int n = some(11);
        int c = some(201);
        int z = some(100);
        int what = some(2);
        switch (method) {
            case 22: compare("ring(" + i + ")", x.ring(i), model.ring(i)); break;
            case 23: compare("owes(" + i + ")", x.owes(i), model.owes(i)); break;
            case 24: see(i); break;
            case 25: if (below(3) == 0) { compare("forget()", x.forget(), model.forget()); } break;
            case 26: compare("kinds(" + i + ")", x.kinds(i), model.kinds(i)); break;
            case 27: compare("odds(" + i + "," + n + "," + c + "," + what + ")",
                    x.odds(i, n, c, what), model.odds(i, n, c, what)); break;
            case 28: compare("generations(" + z + "," + what + ")",
                    x.generations(z, what), model.generations(z, what)); break;
            case 29: if (below(2) == 0) { compare("keep()", x.keep(), model.keep()); }
                else { compare("back()", x.back(), model.back()); } break;
            default: int told = some(7);
                compare("count(" + told + ")", x.count(told), model.count(told)); break;
        }
    }

    /** Often what is so, that kinds may fit. */
    private void see(int i) {
        int year = some(151);
        int c = below(3) == 0 ? some(300) : model.coins(i, year);
        compare("seen(" + i + "," + year + "," + c + ")", x.seen(i, year, c), model.seen(i, year, c));
    }
}
