import java.util.ArrayList;
import java.util.List;
import java.util.regex.Matcher;
import java.util.regex.Pattern;

/**
 * The document once more, in its most plodding form: every "were it so" is tried by living all years anew,
 * every undone change by a whole copy. RandomRunsTest compares it with the class.
 */
final class Model {
    static final int BAD = -1, NO = -2, FULL = -3, NONE = -4;

    static final class Person {
        int born, gain, limit, kind, gift;
    }

    static final class Bequest {
        int from, to, size;
    }

    static final class World {
        List<Person> people = new ArrayList<>();
        List<Bequest> bequests = new ArrayList<>();
        List<int[]> helps = new ArrayList<>();
        int seed;

        World copy() {
            World copy = new World();
            for (Person p : people) {
                Person q = new Person();
                q.born = p.born;
                q.gain = p.gain;
                q.limit = p.limit;
                q.kind = p.kind;
                q.gift = p.gift;
                copy.people.add(q);
            }
            for (Bequest b : bequests) {
                Bequest c = new Bequest();
                c.from = b.from;
                c.to = b.to;
                c.size = b.size;
                copy.bequests.add(c);
            }
            for (int[] h : helps) {
                copy.helps.add(h.clone());
            }
            copy.seed = seed;
            return copy;
        }

        int leaves(int i) {
            int sum = 0;
            for (Bequest b : bequests) {
                sum += b.from == i ? b.size : 0;
            }
            return sum;
        }
    }

    /** A life of all; to = -1 is nobody. */
    static final class Story {
        final int[] died, got, brought;
        final boolean[] having;
        final int[][] coins;

        Story(World w) {
            int n = w.people.size();
            died = new int[n];
            got = new int[n];
            having = new boolean[n];
            brought = new int[w.bequests.size()];
            coins = new int[n][151];
            int[] purse = new int[n];
            boolean[] alive = new boolean[n];
            for (int i = 0; i < n; i++) {
                died[i] = NONE;
            }
            for (int year = 0; year <= 150; year++) {
                for (int i = 0; i < n; i++) {
                    if (w.people.get(i).born == year) {
                        alive[i] = true;
                        purse[i] += w.people.get(i).gift;
                    }
                }
                for (int[] h : w.helps) {
                    if (h[1] == year && alive[h[0]]) {
                        purse[h[0]] += h[2];
                    }
                }
                for (int i = 0; i < n; i++) {
                    if (alive[i] && year - w.people.get(i).born >= 10) {
                        purse[i] += gain(w, i, year);
                    }
                }
                for (int i = 0; i < n; i++) {
                    if (alive[i]) {
                        turn(w, i, year, purse, alive);
                    }
                }
                for (int i = 0; i < n; i++) {
                    coins[i][year] = alive[i] ? purse[i] : 0;
                }
            }
        }

        private static int gain(World w, int i, int year) {
            Person p = w.people.get(i);
            int age = year - p.born;
            if (p.kind == 0) {
                return p.gain;
            }
            if (p.kind == 1) {
                long x = 7919L * w.seed + 6151L * year + 3571L * i + 1;
                long draw = (x * x % 65521) / 8;
                return draw % 2 == 0 ? 2 * p.gain : 0;
            }
            if (p.kind == 2) {
                return p.gain / 2;
            }
            return age >= 30 ? p.gain * 2 : 0;
        }

        private void turn(World w, int i, int year, int[] purse, boolean[] alive) {
            int age = year - w.people.get(i).born;
            int leaves = w.leaves(i);
            boolean has = age >= 18 && leaves > 0 && purse[i] >= leaves;
            if (!has && age < w.people.get(i).limit) {
                return;
            }
            having[i] = has;
            died[i] = year;
            alive[i] = false;
            for (int k = 0; k < w.bequests.size(); k++) {
                Bequest b = w.bequests.get(k);
                if (b.from != i) {
                    continue;
                }
                int paid = Math.min(b.size, purse[i]);
                purse[i] -= paid;
                if (b.to >= 0 && alive[b.to]) {
                    purse[b.to] += paid;
                    got[b.to] += paid;
                    brought[k] += paid;
                }
            }
        }

        int many() {
            int many = 0;
            for (boolean h : having) {
                many += h ? 1 : 0;
            }
            return many;
        }
    }

    private final StringBuilder text = new StringBuilder();
    private World world = new World();
    private List<World> undone = new ArrayList<>();
    private List<World> kept = new ArrayList<>();
    private List<int[]> seen = new ArrayList<>();

    Model() {
        parse("p0,3,60,0;p5,4,50,1;p10,2,70,2;p12,5,40,3;w0,1,40;w0,2,20;w1,3,60;w2,0,15;w3,2,30;g2,5;z7;", world);
    }

    private static final Pattern ITEM = Pattern.compile(
            "p(\\d\\d?),(\\d\\d?),(\\d\\d?),(\\d\\d?);|w(\\d\\d?),(\\d\\d?),(\\d\\d?);|g(\\d\\d?),(\\d\\d?);|z(\\d\\d?);");

    private static int parse(String text, World w) {
        Matcher m = ITEM.matcher(text);
        int at = 0;
        while (at < text.length()) {
            m.region(at, text.length());
            if (!m.lookingAt() || !take(m, text.charAt(at), w)) {
                return at;
            }
            at = m.end();
        }
        return NONE;
    }

    private static int number(Matcher m, int group) {
        return Integer.parseInt(m.group(group));
    }

    private static boolean take(Matcher m, char letter, World w) {
        int told = w.people.size();
        if (letter == 'p') {
            Person p = new Person();
            p.born = number(m, 1);
            p.gain = number(m, 2);
            p.limit = number(m, 3);
            p.kind = number(m, 4);
            w.people.add(p);
            return told < 6 && p.born <= 60 && p.gain <= 9 && p.limit >= 20 && p.kind <= 3;
        }
        if (letter == 'w') {
            Bequest b = new Bequest();
            b.from = number(m, 5);
            b.to = number(m, 6);
            b.size = number(m, 7);
            w.bequests.add(b);
            return w.bequests.size() <= 9 && b.from < told && b.to < told && b.from != b.to && b.size >= 1;
        }
        if (letter == 'g') {
            if (number(m, 8) >= told) {
                return false;
            }
            w.people.get(number(m, 8)).gift = number(m, 9);
            return true;
        }
        w.seed = number(m, 10);
        return true;
    }

    private boolean noPerson(int i) {
        return i < 0 || i >= world.people.size();
    }

    private boolean noBequest(int k) {
        return k < 0 || k >= world.bequests.size();
    }

    private static boolean out(int n, int least, int most) {
        return n < least || n > most;
    }

    int write(int letter) {
        if (out(letter, 32, 126)) {
            return BAD;
        }
        if (text.length() == 200) {
            return FULL;
        }
        text.append((char) letter);
        return text.length();
    }

    int wipe() {
        int was = text.length();
        text.setLength(0);
        return was;
    }

    int fault() {
        return parse(text.toString(), new World());
    }

    int lay() {
        World w = new World();
        if (parse(text.toString(), w) != NONE || w.people.isEmpty()) {
            return NO;
        }
        world = w;
        undone = new ArrayList<>();
        kept = new ArrayList<>();
        seen = new ArrayList<>();
        return w.people.size();
    }

    int person(int i, int what) {
        if (noPerson(i) || out(what, 0, 5)) {
            return BAD;
        }
        Person p = world.people.get(i);
        return new int[] {p.born, p.gain, p.limit, p.kind, p.gift, world.leaves(i)}[what];
    }

    int bequest(int k, int what) {
        if (noBequest(k) || out(what, 0, 2)) {
            return BAD;
        }
        Bequest b = world.bequests.get(k);
        return new int[] {b.from, b.to, b.size}[what];
    }

    private void change() {
        undone.add(world.copy());
        if (undone.size() > 8) {
            undone.remove(0);
        }
    }

    int reword(int k, int n) {
        if (noBequest(k) || out(n, 1, 99)) {
            return BAD;
        }
        change();
        int was = world.bequests.get(k).size;
        world.bequests.get(k).size = n;
        return was;
    }

    int pass(int k, int j) {
        if (noBequest(k) || noPerson(j)) {
            return BAD;
        }
        if (world.bequests.get(k).from == j) {
            return NO;
        }
        change();
        int was = world.bequests.get(k).to;
        world.bequests.get(k).to = j;
        return was;
    }

    int help(int i, int year, int n) {
        if (noPerson(i) || out(year, 0, 150) || out(n, 1, 99)) {
            return BAD;
        }
        if (world.helps.size() == 4) {
            return FULL;
        }
        change();
        world.helps.add(new int[] {i, year, n});
        return world.helps.size();
    }

    int undo() {
        if (undone.isEmpty()) {
            return NO;
        }
        world = undone.remove(undone.size() - 1);
        return undone.size();
    }

    int dies(int i) {
        return noPerson(i) ? BAD : new Story(world).died[i];
    }

    int having() {
        int bits = 0;
        Story story = new Story(world);
        for (int i = 0; i < world.people.size(); i++) {
            bits += story.having[i] ? 1 << i : 0;
        }
        return bits;
    }

    int coins(int i, int year) {
        return noPerson(i) || out(year, 0, 150) ? BAD : new Story(world).coins[i][year];
    }

    int brought(int k) {
        return noBequest(k) ? BAD : new Story(world).brought[k];
    }

    int inherited(int i) {
        return noPerson(i) ? BAD : new Story(world).got[i];
    }

    int first() {
        Story story = new Story(world);
        for (int year = 0; year <= 150; year++) {
            for (int i = 0; i < world.people.size(); i++) {
                if (story.died[i] == year && !story.having[i]) {
                    return i;
                }
            }
        }
        return NONE;
    }

    int longest(int what) {
        if (out(what, 0, 1)) {
            return BAD;
        }
        Story story = new Story(world);
        int who = -1;
        int old = -1;
        for (int i = 0; i < world.people.size(); i++) {
            int age = (story.died[i] < 0 ? 150 : story.died[i]) - world.people.get(i).born;
            if (age > old) {
                old = age;
                who = i;
            }
        }
        return what == 0 ? who : old;
    }

    int greatest(int i) {
        if (noPerson(i)) {
            return BAD;
        }
        for (int n = 300; n >= 1; n--) {
            World w = world.copy();
            w.bequests.removeIf(b -> b.from == i);
            Bequest one = new Bequest();
            one.from = i;
            one.to = -1;
            one.size = n;
            w.bequests.add(one);
            if (new Story(w).having[i]) {
                return n;
            }
        }
        return NONE;
    }

    int needs(int i) {
        if (noPerson(i)) {
            return BAD;
        }
        for (int n = 0; n <= 300; n++) {
            World w = world.copy();
            w.people.get(i).gift += n;
            if (new Story(w).having[i]) {
                return n;
            }
        }
        return NONE;
    }

    int mend(int what) {
        if (out(what, 0, 1)) {
            return BAD;
        }
        int best = NONE;
        int most = NONE;
        for (int k = 0; k < world.bequests.size(); k++) {
            World w = world.copy();
            w.bequests.remove(k);
            int many = new Story(w).many();
            if (best == NONE || many > most) {
                best = k;
                most = many;
            }
        }
        return what == 0 ? best : most;
    }

    int limits(int l) {
        if (out(l, 20, 99)) {
            return BAD;
        }
        World w = world.copy();
        for (Person p : w.people) {
            p.limit = l;
        }
        return new Story(w).many();
    }

    int ring(int i) {
        if (noPerson(i)) {
            return BAD;
        }
        int best = path(i, i, 0, 0);
        return best > 99 ? NONE : best;
    }

    /** The fewest bequests from a person to the goal, over all simple paths; 100 is none. */
    private int path(int at, int goal, int passed, int steps) {
        int best = 100;
        for (Bequest b : world.bequests) {
            if (b.from == at && b.to == goal) {
                best = Math.min(best, steps + 1);
            } else if (b.from == at && (passed & 1 << b.to) == 0) {
                best = Math.min(best, path(b.to, goal, passed | 1 << b.to, steps + 1));
            }
        }
        return best;
    }

    int owes(int i) {
        if (noPerson(i)) {
            return BAD;
        }
        int sum = 1000;
        for (Bequest b : world.bequests) {
            sum += b.from == i ? b.size : b.to == i ? -b.size : 0;
        }
        return sum;
    }

    int seen(int i, int year, int c) {
        if (noPerson(i) || out(year, 0, 150) || out(c, 0, 999)) {
            return BAD;
        }
        if (seen.size() == 8) {
            return FULL;
        }
        seen.add(new int[] {i, year, c});
        return seen.size();
    }

    int forget() {
        int were = seen.size();
        seen = new ArrayList<>();
        return were;
    }

    int kinds(int i) {
        if (noPerson(i)) {
            return BAD;
        }
        int bits = 0;
        for (int kind = 0; kind < 4; kind++) {
            World w = world.copy();
            w.people.get(i).kind = kind;
            Story story = new Story(w);
            boolean so = true;
            for (int[] s : seen) {
                so &= s[0] != i || story.coins[i][s[1]] == s[2];
            }
            bits += so ? 1 << kind : 0;
        }
        return bits;
    }

    int odds(int i, int n, int c, int part) {
        if (noPerson(i) || out(n, 0, 10) || out(c, 0, 200) || out(part, 0, 1)) {
            return BAD;
        }
        int above = 0;
        for (int run = 0; run < 1 << n; run++) {
            above += 2 * world.people.get(i).gain * Integer.bitCount(run) >= c ? 1 : 0;
        }
        int a = above;
        int b = 1 << n;
        while (b != 0) {
            int rest = a % b;
            a = b;
            b = rest;
        }
        return part == 0 ? above / a : (1 << n) / a;
    }

    int generations(int z, int what) {
        if (out(z, 0, 99) || out(what, 0, 1)) {
            return BAD;
        }
        World w = world.copy();
        w.seed = z;
        Story story = new Story(w);
        int last = 0;
        for (int i = 0; i < w.people.size(); i++) {
            last = story.having[i] ? Math.max(last, story.died[i]) : last;
        }
        return what == 0 ? story.many() : last;
    }

    int keep() {
        if (kept.size() == 2) {
            return FULL;
        }
        kept.add(world.copy());
        return kept.size();
    }

    int back() {
        if (kept.isEmpty()) {
            return NO;
        }
        world = kept.remove(kept.size() - 1);
        undone = new ArrayList<>();
        return kept.size();
    }

    int count(int what) {
        if (out(what, 0, 6)) {
            return BAD;
        }
        return new int[] {world.people.size(), world.bequests.size(), world.helps.size(), seen.size(),
            undone.size(), kept.size(), text.length()}[what];
    }
}
