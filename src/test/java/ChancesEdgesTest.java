/** The edges of promises 22 to 27, sentence by sentence: who gave, what is seen, chances, days by a seed. */
public final class ChancesEdgesTest {
    private static final Due DUE = new Due("ChancesEdgesTest");
    private static final String SIX = "H" + "P099000".repeat(6);

    public static void main(String[] args) {
        gaveTogether();
        gaveByAllThatIsSeen();
        gaveOfThoseThatStand();
        gave();
        seenSix();
        seenOfAnotherSquare();
        see();
        unsee();
        luckOfSix();
        luckOrMore();
        luckInLeastTerms();
        luck();
        seed();
        daySteps();
        dayUpperBits();
        dayPasses();
        dayTellsTheHat();
        day();
        DUE.end();
    }

    /** Six whose gifts are 10 each, the most that there can be. */
    private static HatRound sixOfTen() {
        HatRound x = Due.playedTo(SIX + "T119", 0, 0);
        x.bait(9);
        return x;
    }

    private static void gaveIs(String when, HatRound x, int t, int count, int ofAll) {
        DUE.is(when + ": gave(" + t + ", 0)", x.gave(t, 0), count);
        DUE.is(when + ": gave(" + t + ", 1)", x.gave(t, 1), ofAll);
    }

    private static void gaveTogether() {
        DUE.says("GAVE: sets of those that STAND (each its GIFT as it is now, BAIT as it is) whose GIFTS are t (0 .. 99) together");
        HatRound ten = sixOfTen();
        int[] sets = {1, 6, 15, 20, 15, 6, 1};
        for (int t = 0; t <= 99; t++) {
            boolean some = t % 10 == 0 && t <= 60;
            gaveIs("six of 10", ten, t, some ? sets[t / 10] : 0, t == 60 ? 63 : some ? 0 : HatRound.NONE);
        }
        HatRound none = Due.square("H" + "P019000".repeat(6));
        gaveIs("six of none", none, 0, 64, 0);
        gaveIs("six of none", none, 1, 0, HatRound.NONE);
        HatRound x = Due.square("HP029000P019000");
        gaveIs("one of none is in or out", x, 1, 2, 1);
        HatRound bait = Due.square("HP069000P069000");
        gaveIs("by no bait", bait, 2, 1, 3);
        bait.bait(1);
        gaveIs("by 1", bait, 2, 2, 0);
        gaveIs("by 1", bait, 4, 1, 3);
        bait.bait(9);
        gaveIs("by 9", bait, 6, 1, 3);
        DUE.is("as it is now, not as it grows", bait.bait(0) == 9 ? bait.gave(3, 0) : -1, 0);
    }

    private static void gaveByAllThatIsSeen() {
        DUE.says("so that all that is SEEN is so: how many; who is of all (bits).");
        HatRound x = Due.square(SIX);
        int[] count = {20, 10, 6, 3, 2, 1};
        for (int seen = 0; seen < 6; seen++) {
            DUE.is("three of six, by " + seen, x.gave(3, 0), count[seen]);
            x.see(seen, seen % 2 == 0);
        }
        gaveIs("0, 2, 4 gave, 1, 3, 5 did not", x, 3, 1, 21);
        gaveIs("no more than these", x, 4, 0, HatRound.NONE);
        gaveIs("no fewer than these", x, 2, 0, HatRound.NONE);
        HatRound both = Due.square(SIX);
        both.see(5, true);
        both.see(5, false);
        for (int t = 0; t <= 6; t++) {
            gaveIs("that one gave and did not", both, t, 0, HatRound.NONE);
        }
        HatRound last = Due.square(SIX);
        last.see(5, true);
        gaveIs("the last by number", last, 1, 1, 32);
        gaveIs("nothing", last, 0, 0, HatRound.NONE);
    }

    private static void gaveOfThoseThatStand() {
        DUE.says("sets of those that STAND");
        HatRound x = Due.playedTo("HP020000P029000P029005T110", 0);
        gaveIs("0 left, 2 waits", x, 1, 1, 2);
        gaveIs("so there are no two", x, 2, 0, HatRound.NONE);
        x.see(0, false);
        x.see(2, false);
        gaveIs("that they did not is so", x, 1, 1, 2);
        x.see(2, true);
        gaveIs("that one that waits gave can not be so", x, 1, 0, HatRound.NONE);
        HatRound nobody = new HatRound();
        gaveIs("nobody gave nothing", nobody, 0, 1, 0);
        gaveIs("nobody gave one", nobody, 1, 0, HatRound.NONE);
    }

    private static void gave() {
        DUE.says("`int gave(int t, int what)`: GAVE: how many sets (what = 0), who is of all (1: bits); NONE (of 1): there is none. BAD: t, what.");
        HatRound x = Due.square(SIX);
        DUE.within("gave(v, 0)", v -> x.gave(v, 0), 0, 99, HatRound.BAD);
        DUE.within("gave(v, 1)", v -> x.gave(v, 1), 0, 99, HatRound.BAD);
        DUE.within("gave(0, v)", v -> x.gave(0, v), 0, 1, HatRound.BAD);
        DUE.within("gave(99, v)", v -> x.gave(99, v), 0, 1, HatRound.BAD);
        DUE.is("none: how many", x.gave(99, 0), 0);
        DUE.is("none: who", x.gave(99, 1), HatRound.NONE);
    }

    private static void seenSix() {
        DUE.says("SEEN: that a PERSON gave, or did not: 6 such at most, none at first");
        HatRound x = Due.square(SIX);
        DUE.is("none at first", x.about(8), 0);
        for (int count = 1; count <= 6; count++) {
            DUE.is("see", x.see(0, true), count);
        }
        DUE.is("the seventh", x.see(1, true), HatRound.FULL);
        DUE.is("the seventh, though it was seen already", x.see(0, true), HatRound.FULL);
        gaveIs("the seventh is not looked at", x, 2, 5, 1);
        x.unsee();
        gaveIs("nothing seen", x, 2, 15, 0);
        for (int person = 0; person < 5; person++) {
            x.see(person, false);
        }
        DUE.is("the sixth", x.see(5, true), 6);
        gaveIs("the sixth is looked at", x, 1, 1, 32);
    }

    private static void seenOfAnotherSquare() {
        DUE.says("(of PEOPLE that are not there any more nothing is looked at)");
        HatRound x = Due.square(SIX);
        x.see(5, true);
        x.see(1, false);
        gaveIs("six", x, 1, 1, 32);
        Due.write(x, "H" + "P099000".repeat(5));
        x.square();
        gaveIs("the sixth is not there", x, 1, 4, 0);
        gaveIs("the second is, and did not", x, 4, 1, 29);
        Due.write(x, "HP099000");
        x.square();
        gaveIs("nor is the second", x, 1, 1, 1);
        Due.write(x, "H");
        x.square();
        gaveIs("nobody is", x, 0, 1, 0);
        DUE.is("they are SEEN still", x.about(8), 2);
        Due.write(x, SIX);
        x.square();
        gaveIs("all are there again", x, 1, 1, 32);
    }

    private static void see() {
        DUE.says("`int see(int person, boolean gives)`: SEEN: how many there are. UNKNOWN; FULL: 6.");
        for (int people = 1; people <= 6; people++) {
            String text = "H" + "P099000".repeat(people);
            DUE.within("see of " + people, v -> Due.square(text).see(v, true), 0, people - 1, HatRound.UNKNOWN);
            DUE.within("see of " + people, v -> Due.square(text).see(v, false), 0, people - 1, HatRound.UNKNOWN);
        }
        DUE.is("nobody", new HatRound().see(0, false), HatRound.UNKNOWN);
        HatRound x = Due.playedTo("HP090000P099005T110", 0);
        DUE.is("one that left", x.see(0, true), 1);
        DUE.is("one that waits", x.see(1, true), 2);
        for (int count = 3; count <= 6; count++) {
            DUE.is("see", x.see(1, false), count);
        }
        DUE.is("FULL", x.see(0, true), HatRound.FULL);
        DUE.is("UNKNOWN, of several", x.see(2, true), HatRound.UNKNOWN);
        DUE.is("UNKNOWN, of several", x.see(-1, true), HatRound.UNKNOWN);
    }

    private static void unsee() {
        DUE.says("`int unsee()`: Nothing is SEEN: how much there was.");
        HatRound x = Due.square(SIX);
        DUE.is("nothing", x.unsee(), 0);
        x.see(0, true);
        DUE.is("one", x.unsee(), 1);
        for (int count = 0; count < 6; count++) {
            x.see(count, true);
        }
        DUE.is("six", x.unsee(), 6);
        DUE.is("nothing again", x.unsee(), 0);
        DUE.is("there is room again", x.see(0, true), 1);
        gaveIs("only what is seen since", x, 1, 1, 1);
    }

    private static void luckIs(String when, HatRound x, int tenths, int t, int above, int below) {
        DUE.is(when + ": luck(" + tenths + ", " + t + ", true)", x.luck(tenths, t, true), above);
        DUE.is(when + ": luck(" + tenths + ", " + t + ", false)", x.luck(tenths, t, false), below);
    }

    private static void luckOfSix() {
        DUE.says("LUCK: each that STANDS stays by x tenths (0 .. 10), by itself");
        HatRound x = sixOfTen();
        luckIs("none stays", x, 0, 0, 1, 1);
        luckIs("none stays", x, 0, 1, 0, 1);
        luckIs("all stay", x, 10, 60, 1, 1);
        luckIs("all stay", x, 10, 61, 0, 1);
        luckIs("all six of 1 tenth", x, 1, 60, 1, 1000000);
        luckIs("all six of 9 tenths", x, 9, 60, 531441, 1000000);
        luckIs("one at least of 1 tenth", x, 1, 1, 468559, 1000000);
        luckIs("one at least of 9 tenths", x, 9, 10, 999999, 1000000);
        luckIs("five at least of 3 tenths: 6 times 243 times 7, and 729", x, 3, 50, 2187, 200000);
        HatRound some = Due.playedTo("HP029000P020000P029005T110", 0);
        luckIs("who left and who waits does not stay", some, 3, 1, 3, 10);
        luckIs("who left and who waits does not stay", some, 10, 2, 0, 1);
    }

    private static void luckOrMore() {
        DUE.says("the chance that GIFTS of those that stay (as they are now) are t (0 .. 99) or more together: a FRACTION.");
        HatRound x = Due.square("HP029000P049000");
        x.bait(9);
        luckIs("none or more", x, 3, 0, 1, 1);
        luckIs("1: not that none stay", x, 3, 1, 51, 100);
        luckIs("2: the second stays", x, 3, 2, 3, 10);
        luckIs("3: both", x, 3, 3, 9, 100);
        luckIs("4: never", x, 3, 4, 0, 1);
        luckIs("99: never", x, 3, 99, 0, 1);
        x.bait(0);
        luckIs("1 each by no bait", x, 3, 2, 9, 100);
        luckIs("3 by no bait, though the bait would grow", x, 3, 3, 0, 1);
        luckIs("nobody, none or more", new HatRound(), 7, 0, 1, 1);
        luckIs("nobody, one", new HatRound(), 10, 1, 0, 1);
    }

    private static void luckInLeastTerms() {
        DUE.says("FRACTIONS are told above (upper = true), below, in least terms.");
        HatRound one = Due.square("HP029000");
        int[] above = {0, 1, 1, 3, 2, 1, 3, 7, 4, 9, 1};
        int[] below = {1, 10, 5, 10, 5, 2, 5, 10, 5, 10, 1};
        for (int tenths = 0; tenths <= 10; tenths++) {
            luckIs("one of 1", one, tenths, 1, above[tenths], below[tenths]);
            luckIs("certain", one, tenths, 0, 1, 1);
            luckIs("never", one, tenths, 2, 0, 1);
        }
        luckIs("six by a half", Due.square(SIX), 5, 3, 21, 32);
        luckIs("six by a half, all", Due.square(SIX), 5, 6, 1, 64);
    }

    private static void luck() {
        DUE.says("`int luck(int x, int t, boolean upper)`: LUCK. BAD: x, t.");
        HatRound x = Due.square(SIX);
        HatRound nobody = new HatRound();
        DUE.within("luck(v, 0, true)", v -> x.luck(v, 0, true), 0, 10, HatRound.BAD);
        DUE.within("luck(v, 99, false)", v -> x.luck(v, 99, false), 0, 10, HatRound.BAD);
        DUE.within("luck(0, v, true)", v -> x.luck(0, v, true), 0, 99, HatRound.BAD);
        DUE.within("luck(10, v, false)", v -> x.luck(10, v, false), 0, 99, HatRound.BAD);
        DUE.within("luck(v, 0, true), nobody", v -> nobody.luck(v, 0, true), 0, 10, HatRound.BAD);
        DUE.within("luck(0, v, false), nobody", v -> nobody.luck(0, v, false), 0, 99, HatRound.BAD);
    }

    private static void seed() {
        DUE.says("`long seed(long v)`: THE SEED is v: what it was.");
        HatRound x = new HatRound();
        long[] seeds = {0, 0, 1, -1, Long.MAX_VALUE, Long.MIN_VALUE, Integer.MAX_VALUE, Integer.MIN_VALUE, 1L << 32, -3, -2, -9, 0};
        for (int i = 1; i < seeds.length; i++) {
            DUE.is("seed(" + seeds[i] + ")", x.seed(seeds[i]), seeds[i - 1]);
        }
    }

    private static void daySteps() {
        DUE.says("A DAY by THE SEED: m times (1 .. 20) x (THE SEED, a long; 0 at first) becomes x times 6364136223846793005 and 1442695040888963407 (64 bits, wrapping)");
        HatRound x = new HatRound();
        x.day(1);
        DUE.is("once from what is at first", x.seed(0), 1442695040888963407L);
        long[][] steps = {
            {0, 1442695040888963407L, 1876011003808476466L, 7571309944655988996L},
            {1, 7806831264735756412L, -9049835345590740197L, 3748899703585450325L},
            {-1, -4921441182957829598L, -5644886720501858487L, -7053023887983023949L},
            {Long.MAX_VALUE, 4301930853896946210L, 3578485316352917321L, 2170348148871751859L},
            {Long.MIN_VALUE, -7780676995965812401L, -7347361033046299342L, -1652062092198786812L}};
        int[] times = {1, 2, 20};
        for (long[] row : steps) {
            for (int i = 0; i < times.length; i++) {
                x.seed(row[0]);
                x.day(times[i]);
                DUE.is(times[i] + " times from " + row[0], x.seed(0), row[i + 1]);
            }
        }
        x.seed(Long.MAX_VALUE);
        for (int m = 0; m < 20; m++) {
            x.day(1);
        }
        DUE.is("20 days of one are like one of 20", x.seed(0), 2170348148871751859L);
    }

    private static int dayOf(HatRound x, long seed, int m) {
        x.seed(seed);
        return x.day(m);
    }

    /** The first of two seeds leads to a number of 0 or more, the second to one below 0, whose upper bits are no less taken as they are. */
    private static void dayUpperBits() {
        DUE.says("what is left of its upper 31 bits by 6 is an ACT as it is judged");
        HatRound x = Due.square("HP009000T112T114T116T118");
        x.bait(9);
        long[][] tuneThenHat = {{-278, -352}, {-388, -67}, {-127, -201}, {-338, -366}};
        for (int tune = 0; tune < 4; tune++) {
            for (long seed : tuneThenHat[tune]) {
                DUE.is("tune " + tune + ", the hat, by " + seed, dayOf(x, seed, 2), tune + 1);
                DUE.is("tune " + tune + " alone, by " + seed, dayOf(x, seed, 1), 0);
            }
        }
        HatRound y = Due.square("HP099000P099000P199100P299200P399300P399300");
        DUE.is("the hat from the front", dayOf(y, 30, 1), 3);
        DUE.is("the hat from the front, below 0", dayOf(y, 2, 1), 3);
        DUE.is("the hat from the back", dayOf(y, 0, 1), 10);
        DUE.is("the hat from the back, below 0", dayOf(y, -224, 1), 10);
    }

    private static void dayPasses() {
        DUE.says("what can not be is passed: what is in THE HAT then.");
        // Acts by 16: 1, 0, 2, 3, then the hat.
        String[] tunes = {"", "T112", "T112T119", "T112T119T114", "T112T119T114T116"};
        int[] hat = {0, 1, 5, 7, 10};
        for (int there = 0; there <= 4; there++) {
            HatRound x = Due.square("HP009000" + tunes[there]);
            x.bait(9);
            DUE.is(there + " tunes: 1, 0, 2, 3, the hat", dayOf(x, 16, 5), hat[there]);
            DUE.is(there + " tunes, ahead of the hat", dayOf(x, 16, 4), 0);
        }
        DUE.is("nobody, no tunes", new HatRound().day(20), 0);
    }

    private static void dayTellsTheHat() {
        DUE.says("(Nothing changes but THE SEED.)");
        HatRound x = Due.square("HP099000P199300T010");
        x.round(0);
        DUE.is("in the hat already", dayOf(x, 1, 1), 1);
        DUE.about("nothing changed", x, 2, 1, 1, 1, 1, 1, 0, 1, 0, 19);
        DUE.is("a day is no act", x.undo(), 0);
        DUE.is("two hats of a day", dayOf(x, -4, 2), 1);
        DUE.about("nothing changed", x, 2, 1, 0, 0, 0, 3, 0, 0, 0, 19);
        DUE.people("moods", x, 1, 9, 9);
        DUE.is("not played", x.tune(0, 3), 0);
    }

    private static void day() {
        DUE.says("`int day(int m)`: A DAY. BAD: m.");
        DUE.within("day", v -> new HatRound().day(v), 1, 20, HatRound.BAD);
        HatRound x = Due.square(SIX + "T010");
        DUE.within("day of six", x::day, 1, 20, HatRound.BAD);
        x.seed(-7);
        x.day(0);
        x.day(21);
        DUE.is("a refused day leaves the seed", x.seed(0), -7);
    }
}
