import java.lang.reflect.Constructor;
import java.lang.reflect.Field;
import java.lang.reflect.Method;
import java.lang.reflect.Modifier;
import java.util.Arrays;
import java.util.Set;
import java.util.TreeSet;

/** The public face, and promise 1: a new object. */
public final class FaceTest {
    private static final String[] METHODS = {
        "write(int)", "wipe()", "fault()", "lay()", "person(int,int)", "bequest(int,int)",
        "reword(int,int)", "pass(int,int)", "help(int,int,int)", "undo()",
        "dies(int)", "having()", "coins(int,int)", "brought(int)", "inherited(int)", "first()", "longest(int)",
        "greatest(int)", "needs(int)", "mend(int)", "limits(int)", "ring(int)", "owes(int)",
        "seen(int,int,int)", "forget()", "kinds(int)", "odds(int,int,int,int)", "generations(int,int)",
        "keep()", "back()", "count(int)",
    };

    public static void main(String[] args) {
        Checks checks = new Checks("FaceTest");
        checkMembers(checks);
        checkConstants(checks);
        checkNewObject(checks);
        checkObjectsStandApart(checks);
        checks.finish();
    }

    private static void checkMembers(Checks checks) {
        Class<?> face = WillsReadFirst.class;
        checks.due("modifiers", face.getModifiers(), Modifier.PUBLIC | Modifier.FINAL);
        Set<String> open = new TreeSet<>();
        for (Method method : face.getDeclaredMethods()) {
            if (!Modifier.isPrivate(method.getModifiers()) && !method.isSynthetic()) {
                open.add(told(method));
                checks.due("modifiers of " + told(method), method.getModifiers(), Modifier.PUBLIC);
                checks.isTrue(told(method) + " answers an int", method.getReturnType() == int.class);
            }
        }
        checks.isTrue("the methods are those of the document: " + open,
                open.equals(new TreeSet<>(Arrays.asList(METHODS))));
        for (Constructor<?> constructor : face.getDeclaredConstructors()) {
            checks.due("modifiers of the constructor", constructor.getModifiers(), Modifier.PUBLIC);
            checks.due("parameters of the constructor", constructor.getParameterCount(), 0);
        }
        Set<String> constants = new TreeSet<>();
        for (Field field : face.getDeclaredFields()) {
            if (!Modifier.isPrivate(field.getModifiers())) {
                constants.add(field.getName());
            }
        }
        checks.isTrue("the constants are those of the document: " + constants,
                constants.equals(new TreeSet<>(Arrays.asList("BAD", "NO", "FULL", "NONE"))));
    }

    private static String told(Method method) {
        StringBuilder text = new StringBuilder(method.getName()).append('(');
        String part = "";
        for (Class<?> type : method.getParameterTypes()) {
            text.append(part).append(type.getName());
            part = ",";
        }
        return text.append(')').toString();
    }

    private static void checkConstants(Checks checks) {
        checks.due("BAD", WillsReadFirst.BAD, -1);
        checks.due("NO", WillsReadFirst.NO, -2);
        checks.due("FULL", WillsReadFirst.FULL, -3);
        checks.due("NONE", WillsReadFirst.NONE, -4);
    }

    private static void checkNewObject(Checks checks) {
        WillsReadFirst x = new WillsReadFirst();
        int[] counts = {4, 5, 0, 0, 0, 0, 0};
        for (int what = 0; what < counts.length; what++) {
            checks.due("new: count(" + what + ")", x.count(what), counts[what]);
        }
        int[][] persons = {{0, 3, 60, 0, 0, 60}, {5, 4, 50, 1, 0, 60}, {10, 2, 70, 2, 5, 15}, {12, 5, 40, 3, 0, 30}};
        for (int i = 0; i < persons.length; i++) {
            for (int what = 0; what < 6; what++) {
                checks.due("new: person(" + i + ", " + what + ")", x.person(i, what), persons[i][what]);
            }
        }
        int[][] bequests = {{0, 1, 40}, {0, 2, 20}, {1, 3, 60}, {2, 0, 15}, {3, 2, 30}};
        for (int k = 0; k < bequests.length; k++) {
            for (int what = 0; what < 3; what++) {
                checks.due("new: bequest(" + k + ", " + what + ")", x.bequest(k, what), bequests[k][what]);
            }
        }
        checks.due("new: fault()", x.fault(), -4);
        checks.due("new: lay()", x.lay(), -2);
        checks.due("new: undo()", x.undo(), -2);
        checks.due("new: back()", x.back(), -2);
        checks.due("new: wipe()", x.wipe(), 0);
        checks.due("new: forget()", x.forget(), 0);
        checkSeedOfNewObject(checks, x);
    }

    private static void checkSeedOfNewObject(Checks checks, WillsReadFirst x) {
        WillsReadFirst same = Checks.laid("p0,3,60,0;p5,4,50,1;p10,2,70,2;p12,5,40,3;"
                + "w0,1,40;w0,2,20;w1,3,60;w2,0,15;w3,2,30;g2,5;z7;");
        for (int i = 0; i < 4; i++) {
            for (int year = 0; year <= 40; year++) {
                checks.due("new: coins(" + i + ", " + year + ")", x.coins(i, year), same.coins(i, year));
            }
        }
    }

    private static void checkObjectsStandApart(Checks checks) {
        WillsReadFirst one = new WillsReadFirst();
        WillsReadFirst other = new WillsReadFirst();
        one.write('p');
        one.reword(0, 1);
        one.help(0, 3, 9);
        one.seen(0, 0, 0);
        one.keep();
        checks.due("apart: bequest(0, 2)", other.bequest(0, 2), 40);
        for (int what = 2; what < 7; what++) {
            checks.due("apart: count(" + what + ")", other.count(what), 0);
        }
        checks.due("apart: coins(0, 9)", other.coins(0, 9), 0);
        checks.due("apart: coins(0, 9) of the changed one", one.coins(0, 9), 9);
    }
}
