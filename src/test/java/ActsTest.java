/** Promises 9 to 12: tunes played, the hat round, bait laid, all undone. */
public final class ActsTest {
    private static final Due DUE = new Due("ActsTest");

    public static void main(String[] args) {
        playLifts();
        playTires();
        playLosesPatience();
        playBrings();
        playRefuses();
        roundRaisesBait();
        roundMakesShyOnesSlip();
        roundByNumberWithinARow();
        roundRefuses();
        bait();
        baitAboveNine();
        undoEachAct();
        undoForgetsTheFirst();
        DUE.end();
    }

    private static void playLifts() {
        HatRound x = Due.square("HP005000P105010T024");
        DUE.is("play", x.play(0), 2);
        DUE.is("mood to taste", x.person(0, 1), 6);
        DUE.is("mood not to taste", x.person(1, 1), 4);
        DUE.is("patience", x.person(0, 2), 3);
        DUE.is("minute", x.about(2), 2);
        DUE.is("hat", x.about(3), 0);
        DUE.is("acts", x.about(7), 1);
        DUE.is("play again", x.play(0), 2);
        DUE.is("it tires: 3 and 2", x.person(0, 1), 11);
        DUE.is("it tires: 3", x.person(1, 1), 7);
        DUE.is("minute", x.about(2), 4);
    }

    private static void playTires() {
        HatRound x = Due.square("HP009000P009010T011T119");
        int[] toTaste = {3, 5, 7};
        for (int i = 0; i < 3; i++) {
            x.play(0);
            DUE.is("played out, to taste " + i, x.person(0, 1), toTaste[i]);
            DUE.is("played out, not to taste " + i, x.person(1, 1), 1);
        }
        x.play(1);
        DUE.is("another tune is fresh", x.person(0, 1), 16);
        DUE.is("another tune is fresh and to taste", x.person(1, 1), 12);
        x.play(1);
        DUE.is("20 at most, from 24", x.person(0, 1), 20);
        DUE.is("20 at most, from 22", x.person(1, 1), 20);
        DUE.is("gift at most 1 more than no bait", x.person(0, 6), 1);
    }

    private static void playLosesPatience() {
        HatRound x = Due.square("HP042000P053000P011000T025");
        DUE.is("who has none stays, who has less leaves", x.play(0), 2);
        DUE.is("stand", x.about(5), 3);
        DUE.is("none", x.person(0, 2), 0);
        DUE.is("less than none", x.person(2, 2), HatRound.NONE);
        DUE.is("who leaves hears nothing", x.person(2, 1), 1);
        DUE.is("who stays hears", x.person(0, 1), 11);
        DUE.is("all leave", x.play(0), 0);
        DUE.is("nobody is left to play to", x.play(0), 0);
        DUE.about("who left comes no more", x, 3, 1, 6, 0, 0, 0, 0, 3);
    }

    private static void playBrings() {
        HatRound x = Due.square("HP009000P035002P035001P035003T119");
        DUE.is("at first", x.about(5), 1);
        DUE.is("once, by number", x.play(0), 2);
        DUE.is("only the one whose need is met", x.about(5), 5);
        DUE.is("others wait", x.about(6), 10);
        DUE.is("who comes hears nothing", x.person(2, 1), 3);
        DUE.is("who comes loses no patience", x.person(2, 2), 5);
        DUE.is("those that came ahead count", x.play(0), 4);
        DUE.is("nobody waits", x.about(6), 0);
        DUE.is("who stood hears", x.person(2, 1), 11);
        DUE.is("who waits hears nothing", x.person(3, 1), 3);
        HatRound y = Due.square("HP001000P099001T025");
        DUE.is("who leaves is not counted", y.play(0), 0);
        DUE.is("it waits still", y.about(6), 2);
        DUE.is("it waits however often", y.play(0), 0);
        HatRound z = Due.square("HP099000P099001P099002P099003P099004P099005T111");
        DUE.is("one draws the next", z.play(0), 6);
        HatRound w = Due.square("HP099005P099000P099000P099000P099000P099000T111");
        DUE.is("the first comes, too", w.play(0), 6);
    }

    private static void playRefuses() {
        HatRound x = Due.square("HP009000T119T119");
        DUE.is("play(-1)", x.play(-1), HatRound.UNKNOWN);
        DUE.is("play(2)", x.play(2), HatRound.UNKNOWN);
        DUE.is("play(4)", x.play(4), HatRound.UNKNOWN);
        DUE.about("refused", x, 1, 2, 0, 0, 0, 1, 0, 0);
        DUE.is("nobody was played to", x.person(0, 1), 0);
        DUE.is("play(1)", x.play(1), 1);
    }

    private static void roundRaisesBait() {
        HatRound x = Due.square("HP095000P165000P215000P384000");
        DUE.is("0: 1, then 2, then none of a low mood, then 3", x.round(0), 6);
        DUE.about("behind it", x, 4, 0, 1, 6, 3, 15, 0, 1);
        for (int person = 0; person < 4; person++) {
            DUE.is("mood is gone", x.person(person, 1), 0);
        }
        DUE.is("nothing more", x.round(0), 0);
        DUE.about("behind it", x, 4, 0, 2, 6, 3, 15, 0, 2);
        HatRound y = Due.square("HP095000P165000P215000P384000");
        DUE.is("from the back: 1, none, 2, 3", y.round(1), 6);
        HatRound z = Due.square("HP095000P125000P295000");
        DUE.is("from the front: 1, 1, 2", z.round(0), 4);
        DUE.is("the bait is the greatest gift", z.about(4), 2);
        HatRound w = Due.square("HP029000P189000");
        DUE.is("from the back: 1, then half of 2", w.round(1), 2);
        DUE.is("a gift no more than the bait leaves it", w.about(4), 1);
    }

    private static void roundMakesShyOnesSlip() {
        HatRound x = Due.square("HP095100P195000P295100P395100");
        DUE.is("only where it comes near enough", x.round(0), 3);
        DUE.is("behind row 1 row 2 slips, behind row 2 row 3", x.about(5), 3);
        DUE.is("who slips keeps the mood", x.person(2, 1), 9);
        DUE.is("who slips keeps the patience", x.person(2, 2), 5);
        DUE.is("who slips does not wait", x.about(6), 0);
        HatRound y = Due.square("HP095300P095300");
        DUE.is("the first row has no time", y.round(0), 3);
        DUE.is("nobody slips out of a visited row", y.about(5), 3);
        HatRound z = Due.square("HP095300P095200P095100P095000P199300");
        DUE.is("row 0 from the back", z.round(1), 1);
        DUE.is("an empty row is visited too", z.about(5), 8);
        HatRound w = Due.square("HP395200P395300P395000");
        DUE.is("from the front, by 3, 2", w.round(0), 1);
        DUE.is("only who is not shy", w.about(5), 4);
        HatRound v = Due.square("HP095000P395305T015");
        v.round(0);
        DUE.is("who waits does not slip", v.about(6), 2);
        DUE.is("who waits does not give", v.about(3), 1);
    }

    private static void roundByNumberWithinARow() {
        HatRound x = Due.square("HP029000P069000P099000");
        DUE.is("1, 2, 3", x.round(0), 6);
        HatRound y = Due.square("HP099000P069000P029000");
        DUE.is("1, 2, 1", y.round(0), 4);
    }

    private static void roundRefuses() {
        HatRound x = Due.square("HP095000");
        DUE.is("round(-1)", x.round(-1), HatRound.BAD);
        DUE.is("round(2)", x.round(2), HatRound.BAD);
        DUE.about("refused", x, 1, 0, 0, 0, 0, 1, 0, 0);
        DUE.is("round(1)", x.round(1), 1);
        DUE.is("round with nobody there", new HatRound().round(0), 0);
    }

    private static void bait() {
        HatRound x = Due.square("HP099000P199000");
        DUE.is("bait(-1)", x.bait(-1), HatRound.BAD);
        DUE.is("bait(10)", x.bait(10), HatRound.BAD);
        DUE.is("bait(0) that is so", x.bait(0), HatRound.LATE);
        DUE.about("refused", x, 2, 0, 0, 0, 0, 3, 0, 0);
        DUE.is("bait(9)", x.bait(9), 0);
        DUE.about("it does not count in the hat", x, 2, 0, 0, 0, 9, 3, 0, 1);
        DUE.is("bait(9) that is so", x.bait(9), HatRound.LATE);
        DUE.is("bait(2)", x.bait(2), 9);
        DUE.is("gift", x.person(0, 6), 3);
        DUE.is("round by bait", x.round(0), 7);
        DUE.is("bait(0)", x.bait(0), 4);
        DUE.about("behind it", x, 2, 0, 1, 7, 0, 3, 0, 4);
    }

    private static void baitAboveNine() {
        HatRound x = Due.square("HP099000T019");
        x.play(0);
        x.bait(9);
        DUE.is("a gift of 10", x.round(0), 10);
        DUE.is("bait of 10", x.about(4), 10);
        DUE.is("10 can not be laid", x.bait(10), HatRound.BAD);
        DUE.is("9 can be", x.bait(9), 10);
    }

    private static void undoEachAct() {
        HatRound x = Due.square("HP095000P182300P375002P040000T126");
        x.bait(1);
        x.play(0);
        x.round(0);
        x.see(0, true);
        x.seed(9);
        DUE.about("all three", x, 4, 1, 3, 5, 3, 5, 0, 3, 1);
        DUE.is("undo the hat", x.undo(), 2);
        DUE.about("the hat undone", x, 4, 1, 2, 0, 1, 7, 0, 2, 1);
        DUE.people("undone", x, 1, 15, 14, 7, 4);
        DUE.people("undone", x, 2, 3, 0, 5, HatRound.NONE);
        DUE.is("played", x.tune(0, 3), 1);
        DUE.is("undo the tune", x.undo(), 1);
        DUE.about("the tune undone", x, 4, 1, 0, 0, 1, 11, 4, 1, 1);
        DUE.people("undone", x, 1, 9, 8, 7, 4);
        DUE.people("undone", x, 2, 5, 2, 5, 0);
        DUE.is("not played", x.tune(0, 3), 0);
        DUE.is("undo the bait", x.undo(), 0);
        DUE.about("the bait undone", x, 4, 1, 0, 0, 0, 11, 4, 0, 1);
        DUE.is("undo of none", x.undo(), HatRound.LATE);
        DUE.is("the seed is no act", x.seed(0), 9);
    }

    private static void undoForgetsTheFirst() {
        HatRound x = Due.square("HP099000");
        for (int act = 1; act <= 14; act++) {
            x.bait(act % 10);
            DUE.is("acts", x.about(7), Math.min(act, 12));
        }
        for (int left = 11; left >= 0; left--) {
            DUE.is("undo", x.undo(), left);
        }
        DUE.is("the first two are forgotten", x.about(4), 2);
        DUE.is("undo of none", x.undo(), HatRound.LATE);
        DUE.is("nothing changed", x.about(4), 2);
        DUE.is("an act behind them", x.round(0), 3);
        DUE.is("undone", x.undo(), 0);
    }
}
