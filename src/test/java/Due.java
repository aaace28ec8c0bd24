/** What the tests share: answers that are due, counted, and squares made from a text. */
final class Due {
    private final String name;
    private int looked = 0;
    private int wrong = 0;

    Due(String name) {
        this.name = name;
    }

    void is(String call, long got, long want) {
        looked++;
        if (got != want) {
            wrong++;
            System.out.println(name + ": " + call + " answered " + got + ", due is " + want);
        }
    }

    void isTrue(String what, boolean holds) {
        is(what, holds ? 1 : 0, 1);
    }

    /** Every answer of about, so that a test can say that a call changed nothing but what it names. */
    void about(String when, HatRound x, int... want) {
        for (int what = 0; what < want.length; what++) {
            is(when + ": about(" + what + ")", x.about(what), want[what]);
        }
    }

    void end() {
        System.out.println(name + ": " + looked + " answers looked at, " + wrong + " not as due");
        if (wrong != 0 || looked == 0) {
            System.exit(1);
        }
    }

    static void write(HatRound x, String text) {
        x.wipe();
        for (int i = 0; i < text.length(); i++) {
            x.write(text.charAt(i));
        }
    }

    static HatRound square(String text) {
        HatRound x = new HatRound();
        write(x, text);
        if (x.square() < 0) {
            throw new IllegalStateException("the test's own text has a fault: " + text);
        }
        return x;
    }
}
