import java.util.ArrayList;
import java.util.Arrays;
import java.util.List;
import java.util.function.Consumer;
import java.util.function.Supplier;
import java.util.function.ToIntFunction;

/**
 * "Nothing changes then": behind each refused call all that an object answers is as without it, what can still be
 * undone and what is kept too. The same holds behind each question, and behind what was told and taken back.
 */
public final class RefusedTest {
    private static final Checks CHECKS = new Checks("RefusedTest");

    public static void main(String[] args) {
        refusedWrite();
        refusedLay();
        refusedChanges();
        refusedUndo();
        refusedQuestions();
        refusedSeen();
        refusedKept();
        firstOfSeveral();
        questions();
        takenBack();
        CHECKS.finish();
    }

    private static void refused(String call, Supplier<WillsReadFirst> made, int answer, ToIntFunction<WillsReadFirst> asked) {
        WillsReadFirst x = made.get();
        CHECKS.due(call, asked.applyAsInt(x), answer);
        same(call, x, made.get());
    }

    private static void same(String call, WillsReadFirst got, WillsReadFirst want) {
        List<Integer> all = everything(got);
        List<Integer> due = everything(want);
        CHECKS.isTrue("all is as it was behind " + call + ": " + all + ", " + due, all.equals(due));
    }

    /** All that can be heard of an object, at last by undoing and by going back to what is kept. */
    private static List<Integer> everything(WillsReadFirst x) {
        List<Integer> all = new ArrayList<>();
        state(x, all);
        for (int left = 0, n = 0; left >= 0 && n < 9; n++) {
            left = x.undo();
            all.add(left);
            bequests(x, all);
        }
        for (int left = 0, n = 0; left >= 0 && n < 3; n++) {
            left = x.back();
            all.add(left);
            bequests(x, all);
        }
        all.add(x.lay());
        state(x, all);
        return all;
    }

    private static void state(WillsReadFirst x, List<Integer> all) {
        for (int what = 0; what <= 6; what++) {
            all.add(x.count(what));
        }
        all.add(x.fault());
        all.add(x.having());
        for (int i = 0; i < 4; i++) {
            for (int what = 0; what < 6; what++) {
                all.add(x.person(i, what));
            }
            all.addAll(Arrays.asList(x.dies(i), x.kinds(i), x.coins(i, 20), x.coins(i, 26)));
        }
        bequests(x, all);
    }

    private static void bequests(WillsReadFirst x, List<Integer> all) {
        all.add(x.count(2));
        for (int k = 0; k < x.count(1); k++) {
            all.addAll(Arrays.asList(x.bequest(k, 1), x.bequest(k, 2)));
        }
    }

    private static WillsReadFirst made(Consumer<WillsReadFirst> calls) {
        WillsReadFirst x = new WillsReadFirst();
        calls.accept(x);
        return x;
    }

    private static WillsReadFirst busy() {
        return made(x -> {
            x.help(1, 20, 5);
            x.reword(0, 30);
            x.pass(1, 3);
            x.keep();
            x.reword(2, 9);
            x.seen(1, 20, 13);
            x.seen(2, 15, 7);
            Checks.write(x, "p0,1,20,0;w");
        });
    }

    private static void refusedWrite() {
        CHECKS.promise(2, "nothing changes then.");
        for (int letter : new int[] {31, 127, 0, -1, 112 + 256, 112 + 65536}) {
            refused("write(" + letter + ")", RefusedTest::busy, -1, x -> x.write(letter));
        }
        Supplier<WillsReadFirst> full = () -> made(x -> Checks.write(x, "p0,1,20,0;p0,1,20,0;" + "z10;".repeat(45)));
        refused("write('a') of a full text", full, -3, x -> x.write('a'));
        refused("write(31) of a full text", full, -1, x -> x.write(31));
    }

    private static void refusedLay() {
        CHECKS.promise(5, "nothing changes then.");
        refused("lay() of a text with a fault", RefusedTest::busy, -2, x -> x.lay());
        Supplier<WillsReadFirst> empty = () -> made(x -> x.seen(0, 0, 1));
        refused("lay() of an empty text", empty, -2, x -> x.lay());
        Supplier<WillsReadFirst> nobody = () -> made(x -> Checks.write(x, "z5;z9;"));
        refused("lay() of nobody", nobody, -2, x -> x.lay());
        Supplier<WillsReadFirst> late = () -> made(x -> Checks.write(x, "p9,9,99,3;p9,9,99,3;w0,1,9;g0,9;z9;w0,0,9;"));
        refused("lay() of a text with a late fault", late, -2, x -> x.lay());
    }

    private static void refusedChanges() {
        CHECKS.promise(8, "nothing changes then.");
        int[][] rewords = {{-1, 5}, {5, 5}, {32, 5}, {0, 0}, {0, 100}, {0, -5}, {0, 256 + 5}};
        for (int[] r : rewords) {
            refused("reword(" + r[0] + ", " + r[1] + ")", RefusedTest::busy, -1, x -> x.reword(r[0], r[1]));
        }
        CHECKS.promise(9, "nothing changes then.");
        int[][] passes = {{-1, 0}, {5, 0}, {0, -1}, {0, 4}, {0, 32}};
        for (int[] p : passes) {
            refused("pass(" + p[0] + ", " + p[1] + ")", RefusedTest::busy, -1, x -> x.pass(p[0], p[1]));
        }
        refused("pass(0, 0)", RefusedTest::busy, -2, x -> x.pass(0, 0));
        refused("pass(4, 3)", RefusedTest::busy, -2, x -> x.pass(4, 3));
        CHECKS.promise(10, "nothing changes then.");
        int[][] helps = {{-1, 0, 1}, {4, 0, 1}, {0, -1, 1}, {0, 151, 1}, {0, 0, 0}, {0, 0, 100}, {0, 0, 256 + 9}};
        for (int[] h : helps) {
            refused("help(" + h[0] + ", " + h[1] + ", " + h[2] + ")", RefusedTest::busy, -1, x -> x.help(h[0], h[1], h[2]));
        }
        Supplier<WillsReadFirst> full = () -> made(x -> {
            for (int n = 0; n < 4; n++) {
                x.help(n, 14 + n, 5 + n);
            }
        });
        refused("help, a fifth", full, -3, x -> x.help(0, 19, 50));
        refused("help, a fifth of no coins", full, -1, x -> x.help(0, 19, 0));
    }

    private static void refusedUndo() {
        CHECKS.promise(11, "nothing changes then.");
        Supplier<WillsReadFirst> nothing = () -> made(x -> {
            x.help(0, 20, 9);
            x.reword(0, 9);
            x.keep();
            x.back();
            x.keep();
            Checks.write(x, "p0,1,20,0;");
        });
        refused("undo()", nothing, -2, x -> x.undo());
    }

    private static void refusedQuestions() {
        CHECKS.promise(6, "nothing changes then.");
        refused("person(4, 0)", RefusedTest::busy, -1, x -> x.person(4, 0));
        refused("person(0, 6)", RefusedTest::busy, -1, x -> x.person(0, 6));
        CHECKS.promise(7, "nothing changes then.");
        refused("bequest(5, 0)", RefusedTest::busy, -1, x -> x.bequest(5, 0));
        refused("bequest(0, 3)", RefusedTest::busy, -1, x -> x.bequest(0, 3));
        CHECKS.promise(14, "nothing changes then.");
        refused("coins(0, 151)", RefusedTest::busy, -1, x -> x.coins(0, 151));
        refused("coins(4, 0)", RefusedTest::busy, -1, x -> x.coins(4, 0));
        CHECKS.promise(19, "nothing changes then.");
        refused("greatest(4)", RefusedTest::busy, -1, x -> x.greatest(4));
        CHECKS.promise(20, "nothing changes then.");
        refused("needs(-1)", RefusedTest::busy, -1, x -> x.needs(-1));
        CHECKS.promise(21, "nothing changes then.");
        refused("mend(2)", RefusedTest::busy, -1, x -> x.mend(2));
        CHECKS.promise(22, "nothing changes then.");
        refused("limits(19)", RefusedTest::busy, -1, x -> x.limits(19));
        refused("limits(100)", RefusedTest::busy, -1, x -> x.limits(100));
        CHECKS.promise(27, "nothing changes then.");
        refused("kinds(4)", RefusedTest::busy, -1, x -> x.kinds(4));
        CHECKS.promise(28, "nothing changes then.");
        refused("odds(0, 11, 0, 0)", RefusedTest::busy, -1, x -> x.odds(0, 11, 0, 0));
        CHECKS.promise(29, "nothing changes then.");
        refused("generations(100, 0)", RefusedTest::busy, -1, x -> x.generations(100, 0));
        refused("generations(0, 2)", RefusedTest::busy, -1, x -> x.generations(0, 2));
    }

    private static void refusedSeen() {
        CHECKS.promise(25, "nothing changes then.");
        int[][] sights = {{-1, 0, 1}, {4, 0, 1}, {0, -1, 1}, {0, 151, 1}, {0, 0, -1}, {0, 0, 1000}};
        for (int[] s : sights) {
            refused("seen(" + s[0] + ", " + s[1] + ", " + s[2] + ")", RefusedTest::busy, -1, x -> x.seen(s[0], s[1], s[2]));
        }
        Supplier<WillsReadFirst> full = () -> made(x -> {
            for (int n = 0; n < 8; n++) {
                x.seen(n % 2, 9 + n / 2, n < 4 ? 0 : 3);
            }
        });
        refused("seen, a ninth", full, -3, x -> x.seen(2, 0, 999));
        refused("seen, a ninth of 1000 coins", full, -1, x -> x.seen(2, 0, 1000));
    }

    private static void refusedKept() {
        CHECKS.promise(30, "nothing changes then.");
        Supplier<WillsReadFirst> full = () -> made(x -> {
            x.keep();
            x.reword(0, 5);
            x.keep();
            x.reword(0, 6);
            x.help(0, 20, 5);
        });
        refused("keep() of a third", full, -3, x -> x.keep());
        CHECKS.promise(31, "nothing changes then.");
        Supplier<WillsReadFirst> nothing = () -> made(x -> {
            x.reword(0, 6);
            x.help(0, 20, 5);
            x.seen(0, 20, 9);
        });
        refused("back() of nothing", nothing, -2, x -> x.back());
        CHECKS.promise(32, "nothing changes then.");
        refused("count(7)", RefusedTest::busy, -1, x -> x.count(7));
        refused("count(-1)", RefusedTest::busy, -1, x -> x.count(-1));
    }

    /** Each call here meets two of BAD, NO, NONE and FULL at once. */
    private static void firstOfSeveral() {
        CHECKS.promise(2, "FULL. Of several the first in this order;");
        WillsReadFirst text = Checks.written(" ".repeat(200));
        CHECKS.due("write(127) into a full text", text.write(127), -1);
        CHECKS.due("write(31) into a full text", text.write(31), -1);
        CHECKS.promise(9, "Of several the first in this order;");
        WillsReadFirst two = Checks.laid("p0,0,99,0;p0,0,99,0;w0,1,9;");
        CHECKS.due("pass(1, 0), of no bequest", two.pass(1, 0), -1);
        CHECKS.due("pass(0, 2), to nobody", two.pass(0, 2), -1);
        CHECKS.promise(9, "NO: not as things stand.");
        CHECKS.due("pass(0, 0)", two.pass(0, 0), -2);
        CHECKS.promise(10, "Of several the first in this order;");
        for (int n = 0; n < 4; n++) {
            two.help(0, n, 1);
        }
        CHECKS.due("help for nobody, four are told", two.help(2, 0, 1), -1);
        CHECKS.due("help in no year, four are told", two.help(0, -1, 1), -1);
        CHECKS.due("help of 100 coins, four are told", two.help(0, 0, 100), -1);
        CHECKS.promise(20, "Of several the first in this order;");
        CHECKS.due("needs(2), of nobody", two.needs(2), -1);
        CHECKS.promise(21, "Of several the first in this order;");
        WillsReadFirst none = Checks.laid("p0,0,99,0;");
        CHECKS.due("mend(2), there are no bequests", none.mend(2), -1);
        CHECKS.due("mend(-1), there are no bequests", none.mend(-1), -1);
        CHECKS.promise(21, "NONE: there is none.");
        CHECKS.due("mend(0), there are no bequests", none.mend(0), -4);
        CHECKS.promise(25, "Of several the first in this order;");
        for (int n = 0; n < 8; n++) {
            none.seen(0, n, 1);
        }
        CHECKS.due("seen of nobody, eight are told", none.seen(1, 0, 1), -1);
        CHECKS.due("seen in no year, eight are told", none.seen(0, 151, 1), -1);
        CHECKS.due("seen of 1000 coins, eight are told", none.seen(0, 0, 1000), -1);
    }

    private static void question(String call, ToIntFunction<WillsReadFirst> asked) {
        WillsReadFirst x = busy();
        int answer = asked.applyAsInt(x);
        CHECKS.due(call + " once more", asked.applyAsInt(x), answer);
        same(call, x, busy());
    }

    private static void questions() {
        CHECKS.promise(19, "all else being as it is, so that he dies HAVING it;");
        question("greatest(0)", x -> x.greatest(0));
        question("greatest(1)", x -> x.greatest(1));
        CHECKS.promise(20, "all else being as it is; none.");
        question("needs(1)", x -> x.needs(1));
        question("needs(3)", x -> x.needs(3));
        CHECKS.promise(21, "MEND:");
        question("mend(0)", x -> x.mend(0));
        question("mend(1)", x -> x.mend(1));
        CHECKS.promise(22, "LIMITS:");
        question("limits(20)", x -> x.limits(20));
        CHECKS.promise(27, "by which, all else being as it is, all that was SEEN of him would be so.");
        question("kinds(1)", x -> x.kinds(1));
        CHECKS.promise(28, "ODDS");
        question("odds(1, 9, 30, 0)", x -> x.odds(1, 9, 30, 0));
        CHECKS.promise(29, "GENERATIONS");
        question("generations(50, 0)", x -> x.generations(50, 0));
        question("generations(99, 1)", x -> x.generations(99, 1));
        CHECKS.promise(4, "FAULT.");
        question("fault()", x -> x.fault());
        CHECKS.promise(18, "LONGEST:");
        question("longest(0)", x -> x.longest(0));
        CHECKS.promise(17, "FIRST.");
        question("first()", x -> x.first());
        CHECKS.promise(23, "RING.");
        question("ring(0)", x -> x.ring(0));
        CHECKS.promise(24, "OWES.");
        question("owes(0)", x -> x.owes(0));
    }

    private static WillsReadFirst busyWithoutText() {
        return made(x -> {
            x.help(1, 20, 5);
            x.reword(0, 30);
            x.keep();
            x.pass(1, 3);
        });
    }

    private static void takenBack(String calls, Consumer<WillsReadFirst> told) {
        WillsReadFirst x = busyWithoutText();
        told.accept(x);
        same(calls, x, busyWithoutText());
    }

    private static void takenBack() {
        CHECKS.promise(3, "THE TEXT is empty:");
        takenBack("write and wipe", x -> {
            Checks.write(x, "p0,1,20,0;p1,1,20,0;");
            x.wipe();
        });
        CHECKS.promise(26, "Nothing is SEEN:");
        takenBack("seen and forget", x -> {
            x.seen(0, 20, 1);
            x.seen(1, 20, 1);
            x.forget();
        });
        CHECKS.promise(11, "UNDONE is the latest of these");
        takenBack("reword and undo", x -> {
            x.reword(0, 99);
            x.undo();
        });
        takenBack("pass and undo", x -> {
            x.pass(4, 0);
            x.undo();
        });
        takenBack("help and undo", x -> {
            x.help(0, 20, 9);
            x.help(3, 20, 9);
            x.undo();
            x.undo();
        });
    }
}
