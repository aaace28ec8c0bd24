/** Promises 13 to 19: what would be, which changes nothing. */
public final class PlansTest {
    private static final Due DUE = new Due("PlansTest");
    /** From the front 3 is brought and 2 to 5 slip off, from the back 10 and 2, 3 slip off. */
    private static final String SHY_BEHIND = "HP099000P099000P199100P299200P399300P399300";

    public static void main(String[] args) {
        would();
        planByTunes();
        planBySide();
        planOfWhatIsThere();
        planRefuses();
        soon();
        grows();
        growsRefuses();
        bestBait();
        judged();
        judgedRefuses();
        never();
        DUE.end();
    }

    private static void would() {
        HatRound x = Due.square(SHY_BEHIND);
        DUE.is("would(0, 0)", x.would(0, 0), 3);
        DUE.is("would(0, 1)", x.would(0, 1), 60);
        DUE.is("would(1, 0)", x.would(1, 0), 10);
        DUE.is("would(1, 1)", x.would(1, 1), 12);
        DUE.about("nothing changed", x, 6, 0, 0, 0, 0, 63, 0, 0);
        DUE.is("moods stay", x.person(0, 1), 9);
        x.round(1);
        DUE.is("what it brings, not what is in it", x.would(1, 0), 0);
        DUE.is("who left slips no more", x.would(0, 1), 48);
        DUE.is("would(-1, 0)", x.would(-1, 0), HatRound.BAD);
        DUE.is("would(2, 0)", x.would(2, 0), HatRound.BAD);
        DUE.is("would(0, -1)", x.would(0, -1), HatRound.BAD);
        DUE.is("would(0, 2)", x.would(0, 2), HatRound.BAD);
    }

    private static void planIs(HatRound x, int n, int much, int tunes, int side) {
        DUE.is("plan(" + n + ", 0)", x.plan(n, 0), much);
        DUE.is("plan(" + n + ", 1)", x.plan(n, 1), tunes);
        DUE.is("plan(" + n + ", 2)", x.plan(n, 2), side);
    }

    private static void planByTunes() {
        HatRound x = Due.square("HP029000T010T019");
        planIs(x, 0, 1, 0, 0);
        planIs(x, 3, 1, 0, 0);
        x.bait(9);
        planIs(x, 0, 1, 0, 0);
        planIs(x, 1, 6, 1, 0);
        planIs(x, 2, 10, 11, 0);
        planIs(x, 3, 10, 11, 0);
        DUE.about("nothing changed", x, 1, 2, 0, 0, 9, 1, 0, 1);
        DUE.is("mood stays", x.person(0, 1), 2);
        DUE.is("not played", x.tune(1, 3), 0);
        HatRound y = Due.square("HP029000T110T110T110T019");
        y.bait(9);
        planIs(y, 1, 6, 3, 0);
        planIs(y, 2, 10, 33, 0);
        planIs(y, 3, 10, 33, 0);
        HatRound z = Due.square("HP033000T011T181");
        z.bait(9);
        planIs(z, 1, 3, 0, 0);
        planIs(z, 2, 4, 0, 0);
        planIs(z, 3, 5, 0, 0);
        HatRound w = Due.square("HP082000T021T010");
        w.bait(9);
        planIs(w, 2, 6, 11, 0);
        planIs(w, 3, 0, 0, 0);
    }

    private static void planBySide() {
        HatRound x = Due.square(SHY_BEHIND + "T110");
        planIs(x, 0, 10, 0, 1);
        planIs(x, 2, 10, 0, 1);
        HatRound y = Due.square("HP029000P109000T119T219");
        y.bait(9);
        planIs(y, 0, 1, 0, 0);
        HatRound z = Due.square("HP002000P309300T111T119");
        z.bait(9);
        // From the front the one behind slips off; from the back both give, and most by the better tune.
        planIs(z, 1, 8, 1, 1);
    }

    private static void planOfWhatIsThere() {
        HatRound x = Due.square("HP099000P199000T115");
        x.round(0);
        DUE.is("in the hat", x.about(3), 3);
        planIs(x, 0, 0, 0, 0);
        planIs(x, 1, 4, 0, 0);
        DUE.is("in the hat", x.about(3), 3);
        HatRound y = Due.square("HT115T115");
        planIs(y, 0, 0, 0, 0);
        planIs(y, 3, 0, 0, 0);
    }

    private static void planRefuses() {
        HatRound x = Due.square("HP099000");
        for (int what = 0; what < 3; what++) {
            DUE.is("no tunes, one", x.plan(1, what), HatRound.NONE);
            DUE.is("no tunes, three", x.plan(3, what), HatRound.NONE);
        }
        planIs(x, 0, 1, 0, 0);
        DUE.is("plan(-1, 0)", x.plan(-1, 0), HatRound.BAD);
        DUE.is("plan(4, 0)", x.plan(4, 0), HatRound.BAD);
        DUE.is("plan(1, -1)", x.plan(1, -1), HatRound.BAD);
        DUE.is("plan(1, 3)", x.plan(1, 3), HatRound.BAD);
    }

    private static void soon() {
        HatRound x = Due.square("HP009000T019T010T190");
        DUE.is("at once is too soon", x.soon(0), 1);
        x.bait(9);
        DUE.is("twice", x.soon(0), 2);
        DUE.is("as often as patience lasts", x.soon(1), 9);
        DUE.is("never helps", x.soon(2), 0);
        DUE.about("nothing changed", x, 1, 3, 0, 0, 9, 1, 0, 1);
        DUE.is("not played", x.tune(0, 3), 0);
        x.play(0);
        DUE.is("what was played counts", x.soon(0), 1);
        DUE.is("soon(-1)", x.soon(-1), HatRound.UNKNOWN);
        DUE.is("soon(3)", x.soon(3), HatRound.UNKNOWN);
        HatRound y = Due.square("HP029000P399300T019");
        DUE.is("side 0, of like ones the fewest", y.soon(0), 0);
        // The tune lifts only the one behind, who slips off from the front and would give from the back.
        HatRound z = Due.square("HP029000P309310T110");
        z.bait(9);
        DUE.is("from side 0", z.soon(0), 0);
    }

    private static void grows() {
        HatRound x = Due.square("HP002000P009001T011T131");
        DUE.is("grows(1, 0)", x.grows(1, 0), 2);
        DUE.is("grows(1, 1)", x.grows(1, 1), 0);
        DUE.is("grows(2, 1): 0, 1", x.grows(2, 1), 1);
        DUE.is("grows(2, 10): 1, 0", x.grows(2, 10), 0);
        DUE.is("grows(3, 1): 0, 0, 1", x.grows(3, 1), 1);
        DUE.is("grows(4, 1110): 1, 1, 1, 0", x.grows(4, 1110), 0);
        DUE.is("grows(5, 111): 0, 0, 1, 1, 1", x.grows(5, 111), 0);
        DUE.is("grows(6, 0)", x.grows(6, 0), 1);
        DUE.is("grows(6, 111111)", x.grows(6, 111111), 0);
        DUE.about("nothing changed", x, 2, 2, 0, 0, 0, 1, 2, 0);
        DUE.is("not played", x.tune(0, 3), 0);
    }

    private static void growsRefuses() {
        HatRound x = Due.square("HP009000T011T111");
        DUE.is("grows(0, 0)", x.grows(0, 0), HatRound.BAD);
        DUE.is("grows(7, 0)", x.grows(7, 0), HatRound.BAD);
        DUE.is("grows(-1, 0)", x.grows(-1, 0), HatRound.BAD);
        DUE.is("grows(1, -1)", x.grows(1, -1), HatRound.BAD);
        DUE.is("grows(1, 10)", x.grows(1, 10), HatRound.BAD);
        DUE.is("grows(6, 1000000)", x.grows(6, 1000000), HatRound.BAD);
        DUE.is("grows(1, 2)", x.grows(1, 2), HatRound.BAD);
        DUE.is("grows(3, 200)", x.grows(3, 200), HatRound.BAD);
        DUE.is("grows(3, 20)", x.grows(3, 20), HatRound.BAD);
        DUE.is("grows(most, most)", x.grows(Integer.MAX_VALUE, Integer.MAX_VALUE), HatRound.BAD);
        DUE.is("no tunes", Due.square("HP009000").grows(1, 0), HatRound.BAD);
    }

    private static void bestBait() {
        HatRound x = Due.square(SHY_BEHIND);
        DUE.is("bestBait(0)", x.bestBait(0), 3);
        DUE.is("bestBait(1)", x.bestBait(1), 3);
        x.bait(9);
        DUE.is("whatever lies in it", x.bestBait(0), 3);
        DUE.about("nothing changed", x, 6, 0, 0, 0, 9, 63, 0, 1);
        HatRound y = Due.square("HP029000P399300");
        DUE.is("from the front only the one", y.bestBait(0), 0);
        DUE.is("from the back both", y.bestBait(1), 3);
        HatRound z = Due.square("HP099000T019");
        z.play(0);
        DUE.is("the most that can be laid", z.bestBait(0), 9);
        DUE.is("nobody", new HatRound().bestBait(1), 0);
        HatRound w = Due.square("HP029000P199000T019");
        w.bait(9);
        DUE.is("a plan that brings more", w.plan(2, 0), 20);
        DUE.is("is not looked at behind it", w.bestBait(0), 3);
        DUE.is("bestBait(-1)", x.bestBait(-1), HatRound.BAD);
        DUE.is("bestBait(2)", x.bestBait(2), HatRound.BAD);
    }

    private static void judged() {
        HatRound x = Due.square("HP001000P009001T011T121");
        DUE.is("judged(1, 0)", x.judged(1, 0), HatRound.NONE);
        DUE.is("judged(1, 1): all leave", x.judged(1, 1), 0);
        DUE.is("judged(2, 1): 0, 1", x.judged(2, 1), HatRound.NONE);
        DUE.is("judged(2, 10): 1, 0", x.judged(2, 10), 0);
        DUE.is("judged(1, 2): no such tune", x.judged(1, 2), 0);
        DUE.is("judged(2, 3): no such tune", x.judged(2, 3), 1);
        DUE.is("judged(2, 45)", x.judged(2, 45), HatRound.NONE);
        DUE.is("judged(3, 46): no such figure", x.judged(3, 46), 2);
        DUE.is("judged(3, 459): no such figure", x.judged(3, 459), 2);
        DUE.is("judged(8, 0)", x.judged(8, 0), HatRound.NONE);
        DUE.is("judged(8, 99999999)", x.judged(8, 99999999), 0);
        DUE.is("judged(8, 11111): 0, 0, 0, 1, 1, 1, ..", x.judged(8, 11111), 6);
        DUE.about("nothing changed", x, 2, 2, 0, 0, 0, 1, 2, 0);
        HatRound last = Due.square("HP001000T011");
        DUE.is("only what is told is done", last.judged(1, 0), HatRound.NONE);
        DUE.is("once more", last.judged(2, 0), 1);
        HatRound y = Due.square("HP395300");
        DUE.is("slips off from the front", y.judged(1, 4), 0);
        DUE.is("not from the back", y.judged(1, 5), HatRound.NONE);
        DUE.is("judged(2, 54)", y.judged(2, 54), 1);
        DUE.is("nobody at first", new HatRound().judged(1, 4), 0);
        HatRound z = Due.square("HT010T010T010T010P009000");
        DUE.is("judged(4, 123)", z.judged(4, 123), HatRound.NONE);
    }

    private static void judgedRefuses() {
        HatRound x = Due.square("HP009000T011");
        DUE.is("judged(0, 0)", x.judged(0, 0), HatRound.BAD);
        DUE.is("judged(9, 0)", x.judged(9, 0), HatRound.BAD);
        DUE.is("judged(1, -1)", x.judged(1, -1), HatRound.BAD);
        DUE.is("judged(1, 10)", x.judged(1, 10), HatRound.BAD);
        DUE.is("judged(7, 10000000)", x.judged(7, 10000000), HatRound.BAD);
        DUE.is("judged(8, 100000000)", x.judged(8, 100000000), HatRound.BAD);
        DUE.is("judged(least, least)", x.judged(Integer.MIN_VALUE, Integer.MIN_VALUE), HatRound.BAD);
    }

    private static void never() {
        DUE.is("nobody", new HatRound().never(), 0);
        DUE.is("too few", Due.square("HP099000P099002P099003").never(), 6);
        DUE.is("one draws another", Due.square("HP099000P099003P099002P099001").never(), 0);
        DUE.is("the longest way", Due.square("HP099000P099005P099004P099003P099002P099001").never(), 0);
        DUE.is("nobody begins", Due.square("HP099001P099001").never(), 3);
        DUE.is("a gap", Due.square("HP099004P099000P099001P099002T011").never(), 1);
        HatRound x = Due.square("HP000000P009001T010");
        DUE.is("it could come", x.never(), 0);
        DUE.about("nothing changed", x, 2, 1, 0, 0, 0, 1, 2, 0);
        x.play(0);
        DUE.is("who left counts no more", x.never(), 2);
    }
}
