import java.io.IOException;
import java.io.UncheckedIOException;
import java.nio.file.Files;
import java.nio.file.Path;

/** What the tests share: answers that are due, counted, and squares made from a text. */
final class Due {
    /** A call of one number. */
    interface Asked {
        long at(int v);
    }

    private final String name;
    private String sentence = "";
    private int looked = 0;
    private int wrong = 0;

    Due(String name) {
        this.name = name;
    }

    void is(String call, long got, long want) {
        looked++;
        if (got != want) {
            wrong++;
            System.out.println(name + ": " + sentence + call + " answered " + got + ", due is " + want);
        }
    }

    void isTrue(String what, boolean holds) {
        is(what, holds ? 1 : 0, 1);
    }

    /** What is looked at from here on is told with this sentence, which must stand in the document word for word. */
    void says(String quoted) {
        sentence = "";
        isTrue("the document says \"" + quoted + "\"", document().contains(quoted));
        sentence = "\"" + quoted + "\": ";
    }

    /** The document with every gap made one blank, so that a sentence can be found over the ends of lines. */
    static String document() {
        return fileText("../shared/DOC.md").replaceAll("\\s+", " ");
    }

    static String fileText(String path) {
        try {
            return Files.readString(Path.of(path));
        } catch (IOException e) {
            throw new UncheckedIOException(e);
        }
    }

    /** Each from least to most is taken; the ones beside them, and those far off, are refused. */
    void within(String call, Asked asked, int least, int most, int refusal) {
        for (int v = least; v <= most; v++) {
            isTrue(call + " of " + v + " is taken", !isRefusal(asked.at(v)));
        }
        int[] beside = {Integer.MIN_VALUE, least - 1, most + 1, Integer.MAX_VALUE};
        for (int v : beside) {
            is(call + " of " + v, asked.at(v), refusal);
        }
    }

    static boolean isRefusal(long answer) {
        return answer == HatRound.UNKNOWN || answer == HatRound.BAD || answer == HatRound.LATE || answer == HatRound.FULL;
    }

    /** Every answer of about, so that a test can say that a call changed nothing but what it names. */
    void about(String when, HatRound x, int... want) {
        for (int what = 0; what < want.length; what++) {
            is(when + ": about(" + what + ")", x.about(what), want[what]);
        }
    }

    /** The same of each person, from the first on. */
    void people(String when, HatRound x, int what, int... want) {
        for (int person = 0; person < want.length; person++) {
            is(when + ": person(" + person + ", " + what + ")", x.person(person, what), want[person]);
        }
    }

    void end() {
        System.out.println(name + ": " + looked + " answers looked at, " + wrong + " not as due");
        if (wrong != 0 || looked == 0) {
            System.exit(1);
        }
    }

    static void write(HatRound x, String text) {
        x.wipe();
        for (int i = 0; i < text.length(); i++) {
            x.write(text.charAt(i));
        }
    }

    static HatRound square(String text) {
        HatRound x = new HatRound();
        write(x, text);
        if (x.square() < 0) {
            throw new IllegalStateException("the test's own text has a fault: " + text);
        }
        return x;
    }

    static HatRound playedTo(String text, int... tunes) {
        HatRound x = square(text);
        for (int tune : tunes) {
            x.play(tune);
        }
        return x;
    }

    /** One person in front with a mood of 0 .. 20, made by two tunes. */
    static HatRound ofMood(int mood) {
        int first = Math.min(9, Math.max(0, mood - 9));
        int second = Math.max(0, mood - 18);
        HatRound x = playedTo("HP0" + Math.min(9, mood) + "9000T11" + first + "T11" + second, 0, 1);
        if (x.person(0, 1) != mood) {
            throw new IllegalStateException("the test's own mood is " + x.person(0, 1) + ", not " + mood);
        }
        return x;
    }
}
