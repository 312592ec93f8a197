/** Wills that are read at birth: nobody dies before having what he is leaving. */
public final class WillsReadFirst {
    public static final int BAD = -1, NO = -2, FULL = -3, NONE = -4;

    private static final int PEOPLE_MOST = 6, BEQUESTS_MOST = 9, HELPS_MOST = 4, SEEN_MOST = 8;
    private static final int UNDONE_MOST = 8, KEPT_MOST = 2, LETTERS_MOST = 200;
    private static final int LAST_YEAR = 150, BIRTH_MOST = 60, GAIN_MOST = 9;
    private static final int LIMIT_LEAST = 20, LIMIT_MOST = 99, COINS_MOST = 99, SEED_MOST = 99;
    private static final int SEEN_COINS_MOST = 999, WILL_MOST = 300, NEED_MOST = 300;
    private static final int DRAWS_MOST = 10, ODDS_COINS_MOST = 200, OWED_NOTHING = 1000;
    private static final int PLAIN = 0, LUCKY = 1, SLOW = 2, LATE = 3, KINDS = 4;
    private static final int WORKING_AGE = 10, DYING_AGE = 18, LATE_AGE = 30;
    private static final String LAID_AT_FIRST =
            "p0,3,60,0;p5,4,50,1;p10,2,70,2;p12,5,40,3;w0,1,40;w0,2,20;w1,3,60;w2,0,15;w3,2,30;g2,5;z7;";

    private final Scroll scroll = new Scroll();
    private final Reader reader = new Reader(scroll);
    private final Book laid = new Book();
    private final Years told = new Years(laid);
    private boolean toldIsOld = true;
    // What would be is tried in a book of its own, so that what is laid never changes by a question.
    private final Book tried = new Book();
    private final Years would = new Years(tried);
    private final Changes changes = new Changes();
    private final Sights sights = new Sights();
    private final Book keptFirst = new Book();
    private final Book keptSecond = new Book();
    private int keptBooks = 0;

    public WillsReadFirst() {
        for (int place = 0; place < LAID_AT_FIRST.length(); place++) {
            scroll.append(LAID_AT_FIRST.charAt(place));
        }
        reader.readInto(laid);
        scroll.clear();
    }

    // ---- books

    public int write(int letter) {
        if (letter < 32 || letter > 126) {
            return BAD;
        }
        return scroll.append((char) letter) ? scroll.length : FULL;
    }

    public int wipe() {
        int was = scroll.length;
        scroll.clear();
        return was;
    }

    public int fault() {
        return reader.readInto(tried);
    }

    public int lay() {
        if (reader.readInto(tried) != NONE || tried.people == 0) {
            return NO;
        }
        laid.copyFrom(tried);
        changes.clear();
        sights.clear();
        keptBooks = 0;
        toldIsOld = true;
        return laid.people;
    }

    public int person(int i, int what) {
        if (!laid.hasPerson(i)) {
            return BAD;
        }
        switch (what) {
            case 0: return laid.born[i];
            case 1: return laid.gain[i];
            case 2: return laid.limit[i];
            case 3: return laid.kind[i];
            case 4: return laid.gift[i];
            case 5: return laid.leaves(i);
            default: return BAD;
        }
    }

    public int bequest(int k, int what) {
        if (!laid.hasBequest(k)) {
            return BAD;
        }
        switch (what) {
            case 0: return laid.from[k];
            case 1: return laid.to[k];
            case 2: return laid.size[k];
            default: return BAD;
        }
    }

    // ---- changes

    public int reword(int k, int n) {
        if (!laid.hasBequest(k) || !isWithin(n, 1, COINS_MOST)) {
            return BAD;
        }
        int was = laid.size[k];
        laid.size[k] = n;
        changes.note(Changes.REWORDED, k, was);
        toldIsOld = true;
        return was;
    }

    public int pass(int k, int j) {
        if (!laid.hasBequest(k) || !laid.hasPerson(j)) {
            return BAD;
        }
        if (laid.from[k] == j) {
            return NO;
        }
        int was = laid.to[k];
        laid.to[k] = j;
        changes.note(Changes.PASSED, k, was);
        toldIsOld = true;
        return was;
    }

    public int help(int i, int year, int n) {
        if (!laid.hasPerson(i) || !isWithin(year, 0, LAST_YEAR) || !isWithin(n, 1, COINS_MOST)) {
            return BAD;
        }
        if (!laid.addHelp(i, year, n)) {
            return FULL;
        }
        changes.note(Changes.HELPED, 0, 0);
        toldIsOld = true;
        return laid.helps;
    }

    public int undo() {
        if (!changes.takeBack(laid)) {
            return NO;
        }
        toldIsOld = true;
        return changes.noted;
    }

    // ---- years

    public int dies(int i) {
        return laid.hasPerson(i) ? lived().died[i] : BAD;
    }

    public int having() {
        return lived().havingBits;
    }

    public int coins(int i, int year) {
        if (!laid.hasPerson(i) || !isWithin(year, 0, LAST_YEAR)) {
            return BAD;
        }
        return lived().purseAt[i][year];
    }

    public int brought(int k) {
        return laid.hasBequest(k) ? lived().came[k] : BAD;
    }

    public int inherited(int i) {
        return laid.hasPerson(i) ? lived().got[i] : BAD;
    }

    public int first() {
        return lived().firstWithout();
    }

    public int longest(int what) {
        if (what != 0 && what != 1) {
            return BAD;
        }
        int who = lived().oldest();
        return what == 0 ? who : lived().ageReached(who);
    }

    // ---- what would be

    public int greatest(int i) {
        if (!laid.hasPerson(i)) {
            return BAD;
        }
        int most = Math.min(mostEverHeld(i), WILL_MOST);
        return most >= 1 ? most : NONE;
    }

    public int needs(int i) {
        if (!laid.hasPerson(i)) {
            return BAD;
        }
        int leaves = laid.leaves(i);
        if (leaves == 0) {
            return NONE;
        }
        int lacks = Math.max(leaves - mostEverHeld(i), 0);
        return lacks <= NEED_MOST ? lacks : NONE;
    }

    public int mend(int what) {
        if (what != 0 && what != 1) {
            return BAD;
        }
        int best = NONE;
        int most = NONE;
        for (int k = 0; k < laid.bequests; k++) {
            tried.copyFrom(laid);
            tried.voidBequest(k);
            would.run();
            int many = Integer.bitCount(would.havingBits);
            if (many > most) {
                best = k;
                most = many;
            }
        }
        return what == 0 ? best : most;
    }

    public int limits(int l) {
        if (!isWithin(l, LIMIT_LEAST, LIMIT_MOST)) {
            return BAD;
        }
        tried.copyFrom(laid);
        for (int i = 0; i < tried.people; i++) {
            tried.limit[i] = l;
        }
        would.run();
        return Integer.bitCount(would.havingBits);
    }

    // ---- claims

    public int ring(int i) {
        return laid.hasPerson(i) ? fewestBack(i) : BAD;
    }

    public int owes(int i) {
        if (!laid.hasPerson(i)) {
            return BAD;
        }
        return laid.leaves(i) - laid.isLeft(i) + OWED_NOTHING;
    }

    // ---- what was seen

    public int seen(int i, int year, int c) {
        if (!laid.hasPerson(i) || !isWithin(year, 0, LAST_YEAR) || !isWithin(c, 0, SEEN_COINS_MOST)) {
            return BAD;
        }
        return sights.add(i, year, c) ? sights.told : FULL;
    }

    public int forget() {
        int were = sights.told;
        sights.clear();
        return were;
    }

    public int kinds(int i) {
        if (!laid.hasPerson(i)) {
            return BAD;
        }
        int bits = 0;
        for (int kind = 0; kind < KINDS; kind++) {
            tried.copyFrom(laid);
            tried.kind[i] = kind;
            would.run();
            if (sights.fit(i, would)) {
                bits |= 1 << kind;
            }
        }
        return bits;
    }

    public int odds(int i, int n, int c, int part) {
        if (!laid.hasPerson(i) || !isWithin(n, 0, DRAWS_MOST) || !isWithin(c, 0, ODDS_COINS_MOST)) {
            return BAD;
        }
        if (part != 0 && part != 1) {
            return BAD;
        }
        int above = waysToGain(n, 2 * laid.gain[i], c);
        int below = 1 << n;
        // Below is a power of two: halving is all that lowest terms can ask for.
        for (int step = 0; step < n && above % 2 == 0; step++) {
            above /= 2;
            below /= 2;
        }
        return part == 0 ? above : below;
    }

    public int generations(int z, int what) {
        if (!isWithin(z, 0, SEED_MOST) || (what != 0 && what != 1)) {
            return BAD;
        }
        tried.copyFrom(laid);
        tried.seed = z;
        would.run();
        return what == 0 ? Integer.bitCount(would.havingBits) : would.lastHaving();
    }

    // ---- kept

    public int keep() {
        if (keptBooks >= KEPT_MOST) {
            return FULL;
        }
        keptPlace(keptBooks).copyFrom(laid);
        keptBooks++;
        return keptBooks;
    }

    public int back() {
        if (keptBooks == 0) {
            return NO;
        }
        keptBooks--;
        laid.copyFrom(keptPlace(keptBooks));
        changes.clear();
        toldIsOld = true;
        return keptBooks;
    }

    public int count(int what) {
        switch (what) {
            case 0: return laid.people;
            case 1: return laid.bequests;
            case 2: return laid.helps;
            case 3: return sights.told;
            case 4: return changes.noted;
            case 5: return keptBooks;
            case 6: return scroll.length;
            default: return BAD;
        }
    }

    private static boolean isWithin(int number, int least, int most) {
        return number >= least && number <= most;
    }

    /** Most calls change nothing: the years are run anew only behind one that does. */
    private Years lived() {
        if (toldIsOld) {
            told.run();
            toldIsOld = false;
        }
        return told;
    }

    private Book keptPlace(int place) {
        return place == 0 ? keptFirst : keptSecond;
    }

    /**
     * The most that a person has on a turn on which he could die having it.
     * Until he dies nobody is touched by what he leaves, and nobody ever has less than before:
     * so it is what he has on his last turn, if he leaves nothing and so stays for his limit.
     */
    private int mostEverHeld(int i) {
        tried.copyFrom(laid);
        tried.voidBequestsOf(i);
        would.run();
        return would.heldOnTurn[i];
    }

    /** The fewest bequests that lead back lead to nobody twice: more steps than persons need no look. */
    private int fewestBack(int i) {
        int reached = 1 << i;
        for (int steps = 1; steps <= laid.people; steps++) {
            reached = laid.heirsOf(reached);
            if ((reached & (1 << i)) != 0) {
                return steps;
            }
        }
        return NONE;
    }

    /** Counts among the 2 to the n equally likely runs of luck, so that no fraction is cut. */
    private static int waysToGain(int n, int winnings, int c) {
        int sum = 0;
        int ways = 1;
        for (int wins = 0; wins <= n; wins++) {
            if (wins * winnings >= c) {
                sum += ways;
            }
            ways = ways * (n - wins) / (wins + 1);
        }
        return sum;
    }

    private static final class Scroll {
        private final char[] letters = new char[LETTERS_MOST];
        private int length = 0;

        boolean append(char letter) {
            if (length >= letters.length) {
                return false;
            }
            letters[length] = letter;
            length++;
            return true;
        }

        void clear() {
            length = 0;
        }

        /** The letter at a place; behind the end a sign that no text holds. */
        char at(int place) {
            return place >= 0 && place < length ? letters[place] : (char) 0;
        }
    }

    private static final class Reader {
        private final Scroll scroll;
        private final int[] numbers = new int[4];
        private int place = 0;

        Reader(Scroll scroll) {
            this.scroll = scroll;
        }

        /** The place of the first item that is not so, or NONE; the book holds the items ahead of it. */
        int readInto(Book book) {
            book.clear();
            place = 0;
            for (int items = 0; items < LETTERS_MOST && place < scroll.length; items++) {
                int start = place;
                if (!readItem(book)) {
                    return start;
                }
            }
            return NONE;
        }

        private boolean readItem(Book book) {
            char letter = scroll.at(place);
            place++;
            int wanted = numbersOf(letter);
            if (wanted == 0 || !readNumbers(wanted)) {
                return false;
            }
            switch (letter) {
                case 'p': return book.addPerson(numbers[0], numbers[1], numbers[2], numbers[3]);
                case 'w': return book.addBequest(numbers[0], numbers[1], numbers[2]);
                case 'g': return book.addGift(numbers[0], numbers[1]);
                default: return book.putSeed(numbers[0]);
            }
        }

        private static int numbersOf(char letter) {
            switch (letter) {
                case 'p': return 4;
                case 'w': return 3;
                case 'g': return 2;
                case 'z': return 1;
                default: return 0;
            }
        }

        private boolean readNumbers(int wanted) {
            for (int n = 0; n < wanted && n < numbers.length; n++) {
                if (!isFigure(scroll.at(place))) {
                    return false;
                }
                numbers[n] = readNumber();
                char behind = n == wanted - 1 ? ';' : ',';
                if (scroll.at(place) != behind) {
                    return false;
                }
                place++;
            }
            return true;
        }

        /** One or two figures; a third one is left standing, where no figure may. */
        private int readNumber() {
            int number = scroll.at(place) - '0';
            place++;
            if (isFigure(scroll.at(place))) {
                number = number * 10 + (scroll.at(place) - '0');
                place++;
            }
            return number;
        }

        private static boolean isFigure(char letter) {
            return letter >= '0' && letter <= '9';
        }
    }

    private static final class Book {
        private int people = 0;
        private final int[] born = new int[PEOPLE_MOST];
        private final int[] gain = new int[PEOPLE_MOST];
        private final int[] limit = new int[PEOPLE_MOST];
        private final int[] kind = new int[PEOPLE_MOST];
        private final int[] gift = new int[PEOPLE_MOST];
        private int bequests = 0;
        private final int[] from = new int[BEQUESTS_MOST];
        private final int[] to = new int[BEQUESTS_MOST];
        private final int[] size = new int[BEQUESTS_MOST];
        private int helps = 0;
        private final int[] helpFor = new int[HELPS_MOST];
        private final int[] helpYear = new int[HELPS_MOST];
        private final int[] helpCoins = new int[HELPS_MOST];
        private int seed = 0;

        void clear() {
            people = 0;
            bequests = 0;
            helps = 0;
            seed = 0;
        }

        boolean hasPerson(int i) {
            return i >= 0 && i < people;
        }

        boolean hasBequest(int k) {
            return k >= 0 && k < bequests;
        }

        boolean addPerson(int year, int coins, int years, int sort) {
            if (people >= PEOPLE_MOST || !isWithin(year, 0, BIRTH_MOST) || !isWithin(coins, 0, GAIN_MOST)
                    || !isWithin(years, LIMIT_LEAST, LIMIT_MOST) || !isWithin(sort, 0, KINDS - 1)) {
                return false;
            }
            born[people] = year;
            gain[people] = coins;
            limit[people] = years;
            kind[people] = sort;
            gift[people] = 0;
            people++;
            return true;
        }

        boolean addBequest(int i, int j, int n) {
            if (bequests >= BEQUESTS_MOST || !hasPerson(i) || !hasPerson(j) || i == j
                    || !isWithin(n, 1, COINS_MOST)) {
                return false;
            }
            from[bequests] = i;
            to[bequests] = j;
            size[bequests] = n;
            bequests++;
            return true;
        }

        boolean addGift(int i, int n) {
            if (!hasPerson(i) || !isWithin(n, 0, COINS_MOST)) {
                return false;
            }
            gift[i] = n;
            return true;
        }

        boolean putSeed(int s) {
            if (!isWithin(s, 0, SEED_MOST)) {
                return false;
            }
            seed = s;
            return true;
        }

        boolean addHelp(int i, int year, int n) {
            if (helps >= HELPS_MOST) {
                return false;
            }
            helpFor[helps] = i;
            helpYear[helps] = year;
            helpCoins[helps] = n;
            helps++;
            return true;
        }

        void dropLastHelp() {
            if (helps > 0) {
                helps--;
            }
        }

        /** A bequest of no coins is as none: the others keep their numbers so. */
        void voidBequest(int k) {
            if (hasBequest(k)) {
                size[k] = 0;
            }
        }

        void voidBequestsOf(int i) {
            for (int k = 0; k < bequests; k++) {
                if (from[k] == i) {
                    size[k] = 0;
                }
            }
        }

        int leaves(int i) {
            int sum = 0;
            for (int k = 0; k < bequests; k++) {
                if (from[k] == i) {
                    sum += size[k];
                }
            }
            return sum;
        }

        int isLeft(int i) {
            int sum = 0;
            for (int k = 0; k < bequests; k++) {
                if (to[k] == i) {
                    sum += size[k];
                }
            }
            return sum;
        }

        int heirsOf(int persons) {
            int heirs = 0;
            for (int k = 0; k < bequests; k++) {
                if ((persons & (1 << from[k])) != 0) {
                    heirs |= 1 << to[k];
                }
            }
            return heirs;
        }

        void copyFrom(Book other) {
            people = other.people;
            copyRow(other.born, born);
            copyRow(other.gain, gain);
            copyRow(other.limit, limit);
            copyRow(other.kind, kind);
            copyRow(other.gift, gift);
            bequests = other.bequests;
            copyRow(other.from, from);
            copyRow(other.to, to);
            copyRow(other.size, size);
            helps = other.helps;
            copyRow(other.helpFor, helpFor);
            copyRow(other.helpYear, helpYear);
            copyRow(other.helpCoins, helpCoins);
            seed = other.seed;
        }

        private static void copyRow(int[] source, int[] target) {
            for (int n = 0; n < source.length && n < target.length; n++) {
                target[n] = source[n];
            }
        }
    }

    private static final class Years {
        private static final int UNBORN = 0, LIVING = 1, DEAD = 2;

        private final Book book;
        private final int[] state = new int[PEOPLE_MOST];
        private final int[] purse = new int[PEOPLE_MOST];
        private final int[] will = new int[PEOPLE_MOST];
        private final int[] heldOnTurn = new int[PEOPLE_MOST];
        private final int[] died = new int[PEOPLE_MOST];
        private final int[] got = new int[PEOPLE_MOST];
        private final int[] came = new int[BEQUESTS_MOST];
        private final int[][] purseAt = new int[PEOPLE_MOST][LAST_YEAR + 1];
        private int havingBits = 0;

        Years(Book book) {
            this.book = book;
        }

        void run() {
            prepare();
            for (int year = 0; year <= LAST_YEAR; year++) {
                bear(year);
                bringHelp(year);
                work(year);
                for (int i = 0; i < book.people; i++) {
                    takeTurn(i, year);
                }
                for (int i = 0; i < book.people; i++) {
                    purseAt[i][year] = purse[i];
                }
            }
        }

        private void prepare() {
            havingBits = 0;
            for (int i = 0; i < book.people; i++) {
                state[i] = UNBORN;
                purse[i] = 0;
                will[i] = book.leaves(i);
                heldOnTurn[i] = 0;
                died[i] = NONE;
                got[i] = 0;
            }
            for (int k = 0; k < book.bequests; k++) {
                came[k] = 0;
            }
        }

        private void bear(int year) {
            for (int i = 0; i < book.people; i++) {
                if (book.born[i] == year) {
                    state[i] = LIVING;
                    purse[i] = book.gift[i];
                }
            }
        }

        private void bringHelp(int year) {
            for (int h = 0; h < book.helps; h++) {
                if (book.helpYear[h] == year && isLiving(book.helpFor[h])) {
                    purse[book.helpFor[h]] += book.helpCoins[h];
                }
            }
        }

        private void work(int year) {
            for (int i = 0; i < book.people; i++) {
                if (state[i] == LIVING && year - book.born[i] >= WORKING_AGE) {
                    purse[i] += wages(i, year);
                }
            }
        }

        private int wages(int i, int year) {
            int gain = book.gain[i];
            switch (book.kind[i]) {
                case PLAIN: return gain;
                case LUCKY: return drawIsEven(i, year) ? 2 * gain : 0;
                case SLOW: return gain / 2;
                case LATE: return year - book.born[i] >= LATE_AGE ? 2 * gain : 0;
                default: return 0;
            }
        }

        private boolean drawIsEven(int i, int year) {
            // x times x is beyond an int.
            long x = 7919L * book.seed + 6151L * year + 3571L * i + 1L;
            return x * x % 65521L / 8L % 2L == 0L;
        }

        private void takeTurn(int i, int year) {
            if (state[i] != LIVING) {
                return;
            }
            // What comes later in this year is too late for this turn: the purse at its end may hold more.
            heldOnTurn[i] = purse[i];
            int age = year - book.born[i];
            boolean hasIt = will[i] > 0 && purse[i] >= will[i];
            if (age >= DYING_AGE && hasIt) {
                havingBits |= 1 << i;
                die(i, year);
            } else if (age >= book.limit[i]) {
                die(i, year);
            }
        }

        private void die(int i, int year) {
            state[i] = DEAD;
            died[i] = year;
            for (int k = 0; k < book.bequests; k++) {
                if (book.from[k] == i) {
                    pay(i, k);
                }
            }
            purse[i] = 0;
        }

        private void pay(int i, int k) {
            int coins = Math.min(purse[i], book.size[k]);
            int heir = book.to[k];
            purse[i] -= coins;
            if (isLiving(heir)) {
                purse[heir] += coins;
                got[heir] += coins;
                came[k] = coins;
            }
        }

        private boolean isLiving(int i) {
            return i >= 0 && i < book.people && state[i] == LIVING;
        }

        private boolean diedHaving(int i) {
            return (havingBits & (1 << i)) != 0;
        }

        int firstWithout() {
            int who = NONE;
            int when = LAST_YEAR + 1;
            for (int i = 0; i < book.people; i++) {
                if (died[i] != NONE && !diedHaving(i) && died[i] < when) {
                    who = i;
                    when = died[i];
                }
            }
            return who;
        }

        int oldest() {
            int who = 0;
            for (int i = 1; i < book.people; i++) {
                if (ageReached(i) > ageReached(who)) {
                    who = i;
                }
            }
            return who;
        }

        int ageReached(int i) {
            if (!book.hasPerson(i)) {
                return 0;
            }
            return (died[i] == NONE ? LAST_YEAR : died[i]) - book.born[i];
        }

        int lastHaving() {
            int last = 0;
            for (int i = 0; i < book.people; i++) {
                if (diedHaving(i)) {
                    last = Math.max(last, died[i]);
                }
            }
            return last;
        }
    }

    /** Keeps what was before each change, so that a change is undone without a copy of the book. */
    private static final class Changes {
        private static final int REWORDED = 0, PASSED = 1, HELPED = 2;

        private final int[] sort = new int[UNDONE_MOST];
        private final int[] which = new int[UNDONE_MOST];
        private final int[] before = new int[UNDONE_MOST];
        private int noted = 0;

        void clear() {
            noted = 0;
        }

        void note(int what, int k, int was) {
            if (noted >= UNDONE_MOST) {
                loseOldest();
            }
            sort[noted] = what;
            which[noted] = k;
            before[noted] = was;
            noted++;
        }

        private void loseOldest() {
            for (int n = 1; n < UNDONE_MOST; n++) {
                sort[n - 1] = sort[n];
                which[n - 1] = which[n];
                before[n - 1] = before[n];
            }
            noted = UNDONE_MOST - 1;
        }

        boolean takeBack(Book book) {
            if (noted == 0) {
                return false;
            }
            noted--;
            int k = which[noted];
            if (sort[noted] == HELPED) {
                book.dropLastHelp();
            } else if (book.hasBequest(k) && sort[noted] == REWORDED) {
                book.size[k] = before[noted];
            } else if (book.hasBequest(k) && sort[noted] == PASSED) {
                book.to[k] = before[noted];
            }
            return true;
        }
    }

    private static final class Sights {
        private final int[] who = new int[SEEN_MOST];
        private final int[] when = new int[SEEN_MOST];
        private final int[] purse = new int[SEEN_MOST];
        private int told = 0;

        void clear() {
            told = 0;
        }

        boolean add(int i, int year, int c) {
            if (told >= SEEN_MOST) {
                return false;
            }
            who[told] = i;
            when[told] = year;
            purse[told] = c;
            told++;
            return true;
        }

        boolean fit(int i, Years years) {
            for (int n = 0; n < told; n++) {
                if (who[n] == i && years.purseAt[i][when[n]] != purse[n]) {
                    return false;
                }
            }
            return true;
        }
    }
}
