/** Promises 22 to 27: who gave, what is seen, chances, days by a seed. */
public final class ChancesTest {
    private static final Due DUE = new Due("ChancesTest");
    /** With bait enough the gifts are 1, 2, 3. */
    private static final String ONE_TWO_THREE = "HP029000P149000P369000";

    public static void main(String[] args) {
        gave();
        gaveByBait();
        gaveBySeen();
        gaveOfThoseThatStand();
        gaveRefuses();
        see();
        unsee();
        luck();
        luckOfThoseThatStand();
        luckRefuses();
        seed();
        day();
        dayPassesWhatCanNotBe();
        dayRefuses();
        DUE.end();
    }

    private static void gaveIs(HatRound x, int t, int count, int ofAll) {
        DUE.is("gave(" + t + ", 0)", x.gave(t, 0), count);
        DUE.is("gave(" + t + ", 1)", x.gave(t, 1), ofAll);
    }

    private static void gave() {
        HatRound x = Due.square(ONE_TWO_THREE);
        x.bait(9);
        gaveIs(x, 0, 1, 0);
        gaveIs(x, 1, 1, 1);
        gaveIs(x, 2, 1, 2);
        gaveIs(x, 3, 2, 0);
        gaveIs(x, 4, 1, 5);
        gaveIs(x, 5, 1, 6);
        gaveIs(x, 6, 1, 7);
        gaveIs(x, 7, 0, HatRound.NONE);
        gaveIs(x, 99, 0, HatRound.NONE);
        DUE.about("nothing changed", x, 3, 0, 0, 0, 9, 7, 0, 1, 0);
        HatRound y = Due.square("HP029000P019000P029000");
        gaveIs(y, 2, 2, 5);
        gaveIs(y, 0, 2, 0);
        gaveIs(new HatRound(), 0, 1, 0);
        gaveIs(new HatRound(), 1, 0, HatRound.NONE);
    }

    private static void gaveByBait() {
        HatRound x = Due.square(ONE_TWO_THREE);
        gaveIs(x, 1, 3, 0);
        gaveIs(x, 3, 1, 7);
        x.bait(1);
        gaveIs(x, 3, 2, 1);
    }

    private static void gaveBySeen() {
        HatRound x = Due.square(ONE_TWO_THREE);
        x.bait(9);
        x.see(2, true);
        gaveIs(x, 3, 1, 4);
        gaveIs(x, 6, 1, 7);
        gaveIs(x, 1, 0, HatRound.NONE);
        x.see(0, false);
        gaveIs(x, 5, 1, 6);
        gaveIs(x, 6, 0, HatRound.NONE);
        x.see(2, false);
        gaveIs(x, 5, 0, HatRound.NONE);
        gaveIs(x, 3, 0, HatRound.NONE);
        x.unsee();
        gaveIs(x, 3, 2, 0);
    }

    private static void gaveOfThoseThatStand() {
        HatRound x = Due.square("HP029000P029001");
        gaveIs(x, 1, 1, 1);
        x.see(1, false);
        gaveIs(x, 1, 1, 1);
        x.see(1, true);
        gaveIs(x, 1, 0, HatRound.NONE);
        Due.write(x, "HP029000");
        x.square();
        DUE.is("what is seen stays", x.about(8), 2);
        gaveIs(x, 1, 1, 1);
        gaveIs(x, 0, 1, 0);
    }

    private static void gaveRefuses() {
        HatRound x = Due.square(ONE_TWO_THREE);
        DUE.is("gave(-1, 0)", x.gave(-1, 0), HatRound.BAD);
        DUE.is("gave(100, 0)", x.gave(100, 0), HatRound.BAD);
        DUE.is("gave(0, -1)", x.gave(0, -1), HatRound.BAD);
        DUE.is("gave(0, 2)", x.gave(0, 2), HatRound.BAD);
    }

    private static void see() {
        HatRound x = Due.square(ONE_TWO_THREE);
        DUE.is("see(-1)", x.see(-1, true), HatRound.UNKNOWN);
        DUE.is("see(3)", x.see(3, true), HatRound.UNKNOWN);
        DUE.is("nothing seen", x.about(8), 0);
        for (int count = 1; count <= 6; count++) {
            DUE.is("see", x.see(count % 3, count < 4), count);
            DUE.is("seen", x.about(8), count);
        }
        DUE.is("the 7th", x.see(0, true), HatRound.FULL);
        DUE.is("UNKNOWN is told ahead of FULL", x.see(3, true), HatRound.UNKNOWN);
        DUE.is("seen", x.about(8), 6);
        DUE.is("it is no act", x.about(7), 0);
    }

    private static void unsee() {
        HatRound x = Due.square(ONE_TWO_THREE);
        DUE.is("unsee of nothing", x.unsee(), 0);
        x.see(0, true);
        x.see(1, true);
        DUE.is("unsee", x.unsee(), 2);
        DUE.is("nothing is seen", x.about(8), 0);
        DUE.is("unsee again", x.unsee(), 0);
        DUE.is("see behind it", x.see(2, false), 1);
    }

    private static void luckIs(HatRound x, int tenths, int t, int above, int below) {
        DUE.is("luck(" + tenths + ", " + t + ", true)", x.luck(tenths, t, true), above);
        DUE.is("luck(" + tenths + ", " + t + ", false)", x.luck(tenths, t, false), below);
    }

    private static void luck() {
        HatRound x = Due.square(ONE_TWO_THREE);
        x.bait(9);
        luckIs(x, 5, 3, 5, 8);
        luckIs(x, 3, 6, 27, 1000);
        luckIs(x, 7, 0, 1, 1);
        luckIs(x, 7, 7, 0, 1);
        luckIs(x, 7, 99, 0, 1);
        luckIs(x, 0, 0, 1, 1);
        luckIs(x, 0, 1, 0, 1);
        luckIs(x, 10, 6, 1, 1);
        luckIs(x, 10, 7, 0, 1);
        luckIs(x, 2, 5, 1, 25);
        luckIs(x, 1, 1, 271, 1000);
        x.bait(0);
        luckIs(x, 5, 2, 1, 2);
        luckIs(x, 5, 4, 0, 1);
        DUE.about("nothing changed", x, 3, 0, 0, 0, 0, 7, 0, 2, 0);
        HatRound six = Due.square("H" + "P099000".repeat(6));
        luckIs(six, 3, 6, 729, 1000000);
        luckIs(six, 9, 1, 999999, 1000000);
        luckIs(six, 5, 1, 63, 64);
    }

    private static void luckOfThoseThatStand() {
        HatRound x = Due.square("HP029000P029001");
        luckIs(x, 3, 1, 3, 10);
        luckIs(x, 3, 2, 0, 1);
        x.see(0, false);
        luckIs(x, 3, 1, 3, 10);
        luckIs(new HatRound(), 4, 0, 1, 1);
        luckIs(new HatRound(), 4, 1, 0, 1);
    }

    private static void luckRefuses() {
        HatRound x = Due.square(ONE_TWO_THREE);
        DUE.is("luck(-1, 0)", x.luck(-1, 0, true), HatRound.BAD);
        DUE.is("luck(11, 0)", x.luck(11, 0, false), HatRound.BAD);
        DUE.is("luck(0, -1)", x.luck(0, -1, true), HatRound.BAD);
        DUE.is("luck(0, 100)", x.luck(0, 100, false), HatRound.BAD);
    }

    private static void seed() {
        HatRound x = new HatRound();
        DUE.is("seed at first", x.seed(5), 0);
        DUE.is("seed", x.seed(Long.MIN_VALUE), 5);
        DUE.is("seed", x.seed(Long.MAX_VALUE), Long.MIN_VALUE);
        DUE.is("seed", x.seed(-1), Long.MAX_VALUE);
        DUE.is("seed", x.seed(0), -1);
    }

    /** By THE SEED 0 the first act is the hat from side 1, by 2 and by -1 from side 0, by 1 a tune 2. */
    private static void day() {
        HatRound x = Due.square("HP099000P099000P199100P299200P399300P399300");
        DUE.is("from the back", x.day(1), 10);
        DUE.is("the seed behind it", x.seed(2), 1442695040888963407L);
        DUE.is("from the front", x.day(1), 3);
        x.seed(-1);
        DUE.is("a seed below none", x.day(1), 3);
        DUE.is("the seed behind it", x.seed(0), -4921441182957829598L);
        DUE.about("nothing changed", x, 6, 0, 0, 0, 0, 63, 0, 0);
        x.day(20);
        long all = x.seed(0);
        x.day(7);
        x.day(13);
        DUE.is("a day goes on from where the last ended", x.seed(0), all);
    }

    private static void dayPassesWhatCanNotBe() {
        HatRound x = Due.square("HP029000T019");
        x.bait(9);
        x.seed(16);
        DUE.is("no tune 1", x.day(1), 0);
        x.seed(16);
        DUE.is("1, 0, 2, 3, then the hat", x.day(5), 6);
        x.seed(16);
        DUE.is("ahead of the hat", x.day(4), 0);
        x.round(0);
        x.seed(1);
        DUE.is("all that is in the hat", x.day(1), 1);
        DUE.is("the hat stays", x.about(3), 1);
        HatRound nobody = new HatRound();
        DUE.is("nobody, no tunes", nobody.day(20), 0);
    }

    private static void dayRefuses() {
        HatRound x = Due.square(ONE_TWO_THREE);
        x.seed(11);
        DUE.is("day(0)", x.day(0), HatRound.BAD);
        DUE.is("day(-1)", x.day(-1), HatRound.BAD);
        DUE.is("day(21)", x.day(21), HatRound.BAD);
        DUE.is("the seed stays", x.seed(0), 11);
    }
}
