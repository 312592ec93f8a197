import java.util.stream.IntStream;

/** What the tests of the project share: how an answer is compared, and how a text is laid. */
final class Checks {
    private static final long MOST_MILLIS = 240_000;
    private final String name;
    private volatile String words = "";
    private int checkedOfPromise = 1;
    private int checked = 0;
    private int wrong = 0;

    Checks(String name) {
        this.name = name;
        Thread watch = new Thread(this::endIfTooLong);
        watch.setDaemon(true);
        watch.start();
    }

    /** A call that never ends would keep .ci/run from failing. */
    private void endIfTooLong() {
        try {
            Thread.sleep(MOST_MILLIS);
        } catch (InterruptedException e) {
            return;
        }
        System.out.println(name + ": " + words + "a call does not end");
        Runtime.getRuntime().halt(1);
    }

    /** The promise, and the words of the document, that the checks from here on hold the program to; see DocTest. */
    void promise(int number, String wordsOfTheDocument) {
        endPromise();
        words = "promise " + number + " (" + wordsOfTheDocument + "): ";
        checkedOfPromise = 0;
    }

    private void endPromise() {
        if (checkedOfPromise == 0) {
            wrong++;
            System.out.println(name + ": " + words + "nothing was checked");
        }
    }

    void due(String call, long got, long want) {
        checked++;
        checkedOfPromise++;
        if (got != want) {
            wrong++;
            System.out.println(name + ": " + words + call + " answered " + got + ", due is " + want);
        }
    }

    void isTrue(String what, boolean holds) {
        due(what, holds ? 1 : 0, 1);
    }

    void finish() {
        endPromise();
        System.out.println(name + ": " + checked + " checked, " + wrong + " wrong");
        if (wrong != 0 || checked == 0) {
            System.exit(1);
        }
    }

    /**
     * Numbers that are none of least to most: the next ones, the farthest ones, and such as would be one of them
     * if a byte, a short, or the five bits of a shift were all that is looked at.
     */
    static int[] outside(int least, int most) {
        return IntStream.of(least - 1, most + 1, -1, -2, -3, -4, -5, least + 32, most + 32, least + 256, most - 256,
                least + 65536, most - 65536, Integer.MIN_VALUE, Integer.MIN_VALUE + 1, Integer.MIN_VALUE + least,
                Integer.MAX_VALUE, Integer.MAX_VALUE - 1, Integer.MAX_VALUE - most)
                .filter(n -> n < least || n > most).distinct().toArray();
    }

    static void write(WillsReadFirst x, String text) {
        for (int n = 0; n < text.length(); n++) {
            x.write(text.charAt(n));
        }
    }

    static WillsReadFirst written(String text) {
        WillsReadFirst x = new WillsReadFirst();
        write(x, text);
        return x;
    }

    static WillsReadFirst laid(String text) {
        WillsReadFirst x = written(text);
        if (x.lay() < 0) {
            throw new IllegalStateException("a test's text can't be laid: " + text);
        }
        return x;
    }
}
