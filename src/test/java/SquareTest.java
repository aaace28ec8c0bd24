/** Promises 1 to 8: a new object, the text, the square, what is told of it. */
public final class SquareTest {
    private static final Due DUE = new Due("SquareTest");

    public static void main(String[] args) {
        newObject();
        write();
        wipe();
        fault();
        faultOfCounts();
        square();
        squareMadeAnew();
        about();
        person();
        personWhoLeft();
        tune();
        lastOfAll();
        DUE.end();
    }

    private static void newObject() {
        HatRound x = new HatRound();
        DUE.about("new", x, 0, 0, 0, 0, 0, 0, 0, 0, 0, 0);
        DUE.is("person", x.person(0, 0), HatRound.UNKNOWN);
        DUE.is("tune", x.tune(0, 0), HatRound.UNKNOWN);
        DUE.is("undo", x.undo(), HatRound.LATE);
        DUE.is("again 0", x.again(0), HatRound.LATE);
        DUE.is("again 1", x.again(1), HatRound.LATE);
        DUE.is("unsee", x.unsee(), 0);
        DUE.is("seed", x.seed(1), 0);
        DUE.is("UNKNOWN", HatRound.UNKNOWN, -1);
        DUE.is("BAD", HatRound.BAD, -2);
        DUE.is("LATE", HatRound.LATE, -3);
        DUE.is("FULL", HatRound.FULL, -4);
        DUE.is("NONE", HatRound.NONE, -9);
    }

    private static void write() {
        HatRound x = new HatRound();
        DUE.is("write(-1)", x.write(-1), HatRound.BAD);
        DUE.is("write(256)", x.write(256), HatRound.BAD);
        DUE.is("write(least)", x.write(Integer.MIN_VALUE), HatRound.BAD);
        DUE.is("about(9) behind refusals", x.about(9), 0);
        DUE.is("write(0)", x.write(0), 1);
        DUE.is("write(255)", x.write(255), 2);
        for (int length = 3; length <= 64; length++) {
            DUE.is("write to " + length, x.write('H'), length);
        }
        DUE.is("the 65th", x.write('H'), HatRound.FULL);
        DUE.is("BAD is told ahead of FULL", x.write(256), HatRound.BAD);
        DUE.is("about(9) when full", x.about(9), 64);
    }

    private static void wipe() {
        HatRound x = Due.square("HT011");
        DUE.is("wipe", x.wipe(), 5);
        DUE.is("about(9)", x.about(9), 0);
        DUE.is("wipe of nothing", x.wipe(), 0);
        DUE.is("the square stays", x.about(1), 1);
        DUE.is("fault behind wipe", x.fault(), 0);
        DUE.is("write behind wipe", x.write('H'), 1);
        DUE.is("what was wiped is not read", x.fault(), HatRound.NONE);
        for (int i = 0; i < 63; i++) {
            x.write(0);
        }
        DUE.is("wipe of a full one", x.wipe(), 64);
        DUE.is("write behind it", x.write(0), 1);
    }

    private static void faultIs(String text, int want) {
        HatRound x = new HatRound();
        Due.write(x, text);
        DUE.is("fault of \"" + text + "\"", x.fault(), want);
        DUE.is("square of \"" + text + "\" is refused", x.square() == HatRound.LATE ? 1 : 0, want == HatRound.NONE ? 0 : 1);
    }

    private static void fault() {
        faultIs("", 0);
        faultIs("h", 0);
        faultIs("P", 0);
        faultIs("\0", 0);
        faultIs("H", HatRound.NONE);
        faultIs("HH", 1);
        faultIs("Hp", 1);
        faultIs("HXP", 1);
        faultIs("H\u00ff", 1);
        faultIs("HP", 2);
        faultIs("HPT", 2);
        faultIs("HP/", 2);
        faultIs("HP3", 3);
        faultIs("HP4", 2);
        faultIs("HP3/", 3);
        faultIs("HP39", 4);
        faultIs("HP3:", 3);
        faultIs("HP399", 5);
        faultIs("HP39:", 4);
        faultIs("HP3993", 6);
        faultIs("HP3994", 5);
        faultIs("HP39932", 7);
        faultIs("HP39933", 6);
        faultIs("HP399325", HatRound.NONE);
        faultIs("HP399326", 7);
        faultIs("HP000000", HatRound.NONE);
        faultIs("HP0000000", 8);
        faultIs("HT", 2);
        faultIs("HT2", 3);
        faultIs("HT3", 2);
        faultIs("HT21", 4);
        faultIs("HT20", 3);
        faultIs("HT29", 4);
        faultIs("HT2:", 3);
        faultIs("HT299", HatRound.NONE);
        faultIs("HT29:", 4);
        faultIs("HT29P", 4);
        faultIs("HT010", HatRound.NONE);
        faultIs("HT010T010P000000", HatRound.NONE);
        faultIs("HT010P00000T010", 11);
        faultIs("HT010X000P9", 5);
    }

    private static void faultOfCounts() {
        String six = "P000000".repeat(6);
        String four = "T010".repeat(4);
        faultIs("H" + six, HatRound.NONE);
        faultIs("H" + six + "P", 43);
        faultIs("H" + four, HatRound.NONE);
        faultIs("H" + four + "T", 17);
        faultIs("H" + six + four, HatRound.NONE);
        faultIs("H" + six + four + "P", 59);
        faultIs("H" + four + six + "T010", 59);
        faultIs("H".repeat(64), 1);
        faultIs("H" + four + "T0100".repeat(9), 17);
    }

    private static void square() {
        HatRound x = new HatRound();
        Due.write(x, "HP123120P399325T119T298T010");
        DUE.is("square", x.square(), 23);
        DUE.about("made", x, 2, 3, 0, 0, 0, 1, 2, 0, 0, 27);
        x.write('Q');
        DUE.is("square with a fault", x.square(), HatRound.LATE);
        DUE.about("refused", x, 2, 3, 0, 0, 0, 1, 2, 0, 0, 28);
        Due.write(x, "H");
        DUE.is("square of nothing", x.square(), 0);
        DUE.about("made of nothing", x, 0, 0, 0, 0, 0, 0, 0, 0, 0, 1);
        DUE.is("nobody", x.person(0, 0), HatRound.UNKNOWN);
        DUE.is("no tune", x.tune(0, 0), HatRound.UNKNOWN);
        Due.write(x, "H" + "T010".repeat(4) + "P000000".repeat(6));
        DUE.is("square of all that there can be", x.square(), 64);
    }

    private static void squareMadeAnew() {
        HatRound x = Due.square("HP099000P055002T019");
        x.play(0);
        x.bait(3);
        x.round(0);
        x.keep(0);
        x.keep(1);
        x.see(0, true);
        x.see(1, false);
        x.seed(77);
        DUE.about("ahead", x, 2, 1, 2, 4, 4, 1, 2, 3, 2, 19);
        x.write('Q');
        DUE.is("refused", x.square(), HatRound.LATE);
        DUE.about("refused", x, 2, 1, 2, 4, 4, 1, 2, 3, 2, 20);
        DUE.is("what was kept stays behind a refusal", x.again(0), 1);
        x.bait(9);
        Due.write(x, "HP099000P055002T019");
        DUE.is("square", x.square(), 21);
        DUE.about("anew", x, 2, 1, 0, 0, 0, 1, 2, 0, 2, 19);
        DUE.is("mood anew", x.person(0, 1), 9);
        DUE.is("patience anew", x.person(0, 2), 9);
        DUE.is("not played", x.tune(0, 3), 0);
        DUE.is("kept 0 is gone", x.again(0), HatRound.LATE);
        DUE.is("kept 1 is gone", x.again(1), HatRound.LATE);
        DUE.is("no acts", x.undo(), HatRound.LATE);
        DUE.is("the seed stays", x.seed(0), 77);
    }

    private static void about() {
        HatRound x = Due.square("HP099000P055001P055005T219T110");
        x.play(0);
        x.play(1);
        x.bait(2);
        x.round(1);
        x.see(1, true);
        DUE.about("about", x, 3, 2, 3, 5, 3, 3, 4, 4, 1, 30);
        DUE.is("about(-1)", x.about(-1), HatRound.BAD);
        DUE.is("about(10)", x.about(10), HatRound.BAD);
        DUE.is("about(most)", x.about(Integer.MAX_VALUE), HatRound.BAD);
    }

    private static void person() {
        HatRound x = Due.square("HP123120P399315T119");
        int[] first = {1, 2, 3, 1, 2, 0, 1};
        int[] second = {3, 9, 9, 3, 1, 5, 1};
        for (int what = 0; what < 7; what++) {
            DUE.is("person(0, " + what + ")", x.person(0, what), first[what]);
            DUE.is("person(1, " + what + ")", x.person(1, what), second[what]);
        }
        DUE.is("person(0, -1)", x.person(0, -1), HatRound.BAD);
        DUE.is("person(0, 7)", x.person(0, 7), HatRound.BAD);
        DUE.is("person(-1, 0)", x.person(-1, 0), HatRound.UNKNOWN);
        DUE.is("person(2, 0)", x.person(2, 0), HatRound.UNKNOWN);
        DUE.is("UNKNOWN is told ahead of BAD", x.person(2, 7), HatRound.UNKNOWN);
        x.bait(2);
        DUE.is("a gift of one that waits, by the bait", x.person(1, 6), 3);
        x.bait(9);
        DUE.is("half a mood, cut", x.person(1, 6), 4);
        DUE.is("half a mood", x.person(0, 6), 1);
    }

    private static void personWhoLeft() {
        HatRound x = Due.square("HP073000T135");
        x.play(0);
        DUE.is("patience of none is none yet", x.person(0, 2), 0);
        DUE.is("stands", x.about(5), 1);
        DUE.is("mood", x.person(0, 1), 12);
        x.play(0);
        DUE.is("patience less than none", x.person(0, 2), HatRound.NONE);
        DUE.is("left", x.about(5), 0);
        DUE.is("does not wait", x.about(6), 0);
        DUE.is("mood of one that left", x.person(0, 1), 12);
        DUE.is("gift of one that left", x.person(0, 6), 1);
        DUE.is("row of one that left", x.person(0, 0), 0);
    }

    private static void tune() {
        HatRound x = Due.square("HT119T290P000000T018");
        int[][] want = {{1, 1, 9, 0}, {2, 9, 0, 0}, {0, 1, 8, 0}};
        for (int tune = 0; tune < 3; tune++) {
            for (int what = 0; what < 4; what++) {
                DUE.is("tune(" + tune + ", " + what + ")", x.tune(tune, what), want[tune][what]);
            }
        }
        x.play(1);
        x.play(2);
        x.play(1);
        DUE.is("played 0", x.tune(0, 3), 0);
        DUE.is("played 1", x.tune(1, 3), 2);
        DUE.is("played 2", x.tune(2, 3), 1);
        DUE.is("good stays", x.tune(2, 2), 8);
        DUE.is("tune(0, -1)", x.tune(0, -1), HatRound.BAD);
        DUE.is("tune(0, 4)", x.tune(0, 4), HatRound.BAD);
        DUE.is("tune(-1, 0)", x.tune(-1, 0), HatRound.UNKNOWN);
        DUE.is("tune(3, 0)", x.tune(3, 0), HatRound.UNKNOWN);
        DUE.is("UNKNOWN is told ahead of BAD", x.tune(3, 4), HatRound.UNKNOWN);
    }

    private static void lastOfAll() {
        HatRound x = Due.square("H" + "P000000".repeat(5) + "P286210" + "T010".repeat(3) + "T123");
        x.play(3);
        int[] person = {2, 13, 4, 2, 1, 0, 1};
        for (int what = 0; what < 7; what++) {
            DUE.is("person(5, " + what + ")", x.person(5, what), person[what]);
        }
        int[] tune = {1, 2, 3, 1};
        for (int what = 0; what < 4; what++) {
            DUE.is("tune(3, " + what + ")", x.tune(3, what), tune[what]);
        }
        DUE.is("person(6, 0)", x.person(6, 0), HatRound.UNKNOWN);
        DUE.is("tune(4, 0)", x.tune(4, 0), HatRound.UNKNOWN);
    }
}
