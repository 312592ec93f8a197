/** What the tests of the project share: how an answer is compared, and how a text is laid. */
final class Checks {
    private final String name;
    private int checked = 0;
    private int wrong = 0;

    Checks(String name) {
        this.name = name;
    }

    void due(String call, long got, long want) {
        checked++;
        if (got != want) {
            wrong++;
            System.out.println(name + ": " + call + " answered " + got + ", due is " + want);
        }
    }

    void isTrue(String what, boolean holds) {
        due(what, holds ? 1 : 0, 1);
    }

    void finish() {
        System.out.println(name + ": " + checked + " checked, " + wrong + " wrong");
        if (wrong != 0 || checked == 0) {
            System.exit(1);
        }
    }

    static void write(WillsReadFirst x, String text) {
        for (int n = 0; n < text.length(); n++) {
            x.write(text.charAt(n));
        }
    }

    static WillsReadFirst written(String text) {
        WillsReadFirst x = new WillsReadFirst();
        write(x, text);
        return x;
    }

    static WillsReadFirst laid(String text) {
        WillsReadFirst x = written(text);
        if (x.lay() < 0) {
            throw new IllegalStateException("a test's text can't be laid: " + text);
        }
        return x;
    }
}
