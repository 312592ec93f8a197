import java.lang.reflect.Constructor;
import java.lang.reflect.Field;
import java.lang.reflect.Method;
import java.lang.reflect.Modifier;
import java.util.Arrays;
import java.util.Set;
import java.util.TreeSet;

/** The public face, promise 1: a new object, and the 512 calls that an object is used for. */
public final class FaceTest {
    private static final String[] METHODS = {
        "write(int)", "wipe()", "fault()", "lay()", "person(int,int)", "bequest(int,int)",
        "reword(int,int)", "pass(int,int)", "help(int,int,int)", "undo()",
        "dies(int)", "having()", "coins(int,int)", "brought(int)", "inherited(int)", "first()", "longest(int)",
        "greatest(int)", "needs(int)", "mend(int)", "limits(int)", "ring(int)", "owes(int)",
        "seen(int,int,int)", "forget()", "kinds(int)", "odds(int,int,int,int)", "generations(int,int)",
        "keep()", "back()", "count(int)",
    };

    public static void main(String[] args) {
        Checks checks = new Checks("FaceTest");
        checkMembers(checks);
        checkConstants(checks);
        checkNewObject(checks);
        checkTextOfNewObject(checks);
        checkSeedOfNewObject(checks);
        checkObjectsStandApart(checks);
        checkLastOfTheCalls(checks);
        checks.finish();
    }

    private static void checkMembers(Checks checks) {
        Class<?> face = WillsReadFirst.class;
        checks.due("modifiers", face.getModifiers(), Modifier.PUBLIC | Modifier.FINAL);
        Set<String> open = new TreeSet<>();
        for (Method method : face.getDeclaredMethods()) {
            if (!Modifier.isPrivate(method.getModifiers()) && !method.isSynthetic()) {
                open.add(told(method));
                checks.due("modifiers of " + told(method), method.getModifiers(), Modifier.PUBLIC);
                checks.isTrue(told(method) + " answers an int", method.getReturnType() == int.class);
            }
        }
        checks.isTrue("the methods are those of the document: " + open,
                open.equals(new TreeSet<>(Arrays.asList(METHODS))));
        for (Constructor<?> constructor : face.getDeclaredConstructors()) {
            checks.due("modifiers of the constructor", constructor.getModifiers(), Modifier.PUBLIC);
            checks.due("parameters of the constructor", constructor.getParameterCount(), 0);
        }
        Set<String> constants = new TreeSet<>();
        for (Field field : face.getDeclaredFields()) {
            if (!Modifier.isPrivate(field.getModifiers())) {
                constants.add(field.getName());
            }
        }
        checks.isTrue("the constants are those of the document: " + constants,
                constants.equals(new TreeSet<>(Arrays.asList("BAD", "NO", "FULL", "NONE"))));
    }

    private static String told(Method method) {
        StringBuilder text = new StringBuilder(method.getName()).append('(');
        String part = "";
        for (Class<?> type : method.getParameterTypes()) {
            text.append(part).append(type.getName());
            part = ",";
        }
        return text.append(')').toString();
    }

    private static void checkConstants(Checks checks) {
        checks.promise(1, "BAD = -1, NO = -2, FULL = -3, NONE = -4;");
        checks.due("BAD", WillsReadFirst.BAD, -1);
        checks.due("NO", WillsReadFirst.NO, -2);
        checks.due("FULL", WillsReadFirst.FULL, -3);
        checks.due("NONE", WillsReadFirst.NONE, -4);
    }

    private static void checkNewObject(Checks checks) {
        checks.promise(1, "at first p0,3,60,0;p5,4,50,1;p10,2,70,2;p12,5,40,3;"
                + "w0,1,40;w0,2,20;w1,3,60;w2,0,15;w3,2,30;g2,5;z7;).");
        WillsReadFirst x = new WillsReadFirst();
        int[] counts = {4, 5, 0, 0, 0, 0, 0};
        for (int what = 0; what < counts.length; what++) {
            checks.due("new: count(" + what + ")", x.count(what), counts[what]);
        }
        int[][] persons = {{0, 3, 60, 0, 0, 60}, {5, 4, 50, 1, 0, 60}, {10, 2, 70, 2, 5, 15}, {12, 5, 40, 3, 0, 30}};
        for (int i = 0; i < persons.length; i++) {
            for (int what = 0; what < 6; what++) {
                checks.due("new: person(" + i + ", " + what + ")", x.person(i, what), persons[i][what]);
            }
        }
        int[][] bequests = {{0, 1, 40}, {0, 2, 20}, {1, 3, 60}, {2, 0, 15}, {3, 2, 30}};
        for (int k = 0; k < bequests.length; k++) {
            for (int what = 0; what < 3; what++) {
                checks.due("new: bequest(" + k + ", " + what + ")", x.bequest(k, what), bequests[k][what]);
            }
        }
        checks.due("new: undo()", x.undo(), -2);
        checks.due("new: back()", x.back(), -2);
        checks.due("new: forget()", x.forget(), 0);
    }

    private static void checkTextOfNewObject(Checks checks) {
        checks.promise(1, "As told; THE TEXT is empty.");
        WillsReadFirst x = new WillsReadFirst();
        checks.due("new: count(6)", x.count(6), 0);
        checks.due("new: fault()", x.fault(), -4);
        checks.due("new: lay()", x.lay(), -2);
        checks.due("new: wipe()", x.wipe(), 0);
        checks.due("new: write('p')", x.write('p'), 1);
        checks.due("new: the first letter is at place 0", x.fault(), 0);
    }

    private static void checkSeedOfNewObject(Checks checks) {
        checks.promise(1, "at first p0,3,60,0;p5,4,50,1;p10,2,70,2;p12,5,40,3;"
                + "w0,1,40;w0,2,20;w1,3,60;w2,0,15;w3,2,30;g2,5;z7;).");
        WillsReadFirst x = new WillsReadFirst();
        WillsReadFirst same = Checks.laid("p0,3,60,0;p5,4,50,1;p10,2,70,2;p12,5,40,3;"
                + "w0,1,40;w0,2,20;w1,3,60;w2,0,15;w3,2,30;g2,5;z7;");
        for (int i = 0; i < 4; i++) {
            for (int year = 0; year <= 40; year++) {
                checks.due("new: coins(" + i + ", " + year + ")", x.coins(i, year), same.coins(i, year));
            }
        }
        String draws = "000000011010";
        for (int year = 15; year < 27; year++) {
            int gain = x.coins(1, year) - x.coins(1, year - 1);
            checks.due("new: gain of person 1 in " + year, gain, draws.charAt(year - 15) == '1' ? 8 : 0);
        }
    }

    private static void checkObjectsStandApart(Checks checks) {
        checks.promise(1, "As told; THE TEXT is empty.");
        WillsReadFirst one = new WillsReadFirst();
        WillsReadFirst other = new WillsReadFirst();
        one.write('p');
        one.reword(0, 1);
        one.help(0, 3, 9);
        one.seen(0, 0, 0);
        one.keep();
        checks.due("apart: bequest(0, 2)", other.bequest(0, 2), 40);
        for (int what = 2; what < 7; what++) {
            checks.due("apart: count(" + what + ")", other.count(what), 0);
        }
        checks.due("apart: coins(0, 9)", other.coins(0, 9), 0);
        checks.due("apart: coins(0, 9) of the changed one", one.coins(0, 9), 9);
    }

    private static void checkLastOfTheCalls(Checks checks) {
        checks.promise(32, "An object is used for at most 512 calls after it has been made");
        WillsReadFirst writing = new WillsReadFirst();
        WillsReadFirst asking = new WillsReadFirst();
        for (int call = 1; call < 512; call++) {
            writing.write('a');
            asking.reword(0, call % 99 + 1);
        }
        checks.due("call 512 behind 511 of write", writing.write('a'), -3);
        checks.due("call 512 behind 511 of reword", asking.bequest(0, 2), 511 % 99 + 1);
        WillsReadFirst x = new WillsReadFirst();
        int[] first = {x.greatest(3), x.mend(1), x.kinds(1), x.generations(7, 1)};
        for (int round = 2; round <= 128; round++) {
            int[] again = {x.greatest(3), x.mend(1), x.kinds(1), x.generations(7, 1)};
            checks.isTrue("round " + round + " of 4 calls answers as the first one", Arrays.equals(again, first));
        }
    }
}
