/** Promises 28 and 29: kept and gone on from. */
public final class SlotsTest {
    private static final Due DUE = new Due("SlotsTest");

    public static void main(String[] args) {
        keepAndAgain();
        slotsStandApart();
        whatIsNotKept();
        refusals();
        DUE.end();
    }

    private static void keepAndAgain() {
        HatRound x = Due.square("HP095000P182300P375002P040000T126");
        x.bait(1);
        x.play(0);
        DUE.is("keep", x.keep(0), 3);
        DUE.is("to keep is no act", x.about(7), 2);
        x.round(0);
        x.play(0);
        x.bait(9);
        DUE.about("gone on", x, 4, 1, 5, 5, 9, 5, 0, 5);
        DUE.is("again", x.again(0), 3);
        DUE.about("as it was kept", x, 4, 1, 2, 0, 1, 7, 0, 0);
        int[] moods = {15, 14, 7, 4};
        int[] patience = {3, 0, 5, HatRound.NONE};
        for (int person = 0; person < 4; person++) {
            DUE.is("mood of " + person, x.person(person, 1), moods[person]);
            DUE.is("patience of " + person, x.person(person, 2), patience[person]);
        }
        DUE.is("how often played", x.tune(0, 3), 1);
        DUE.is("no acts", x.undo(), HatRound.LATE);
        x.round(0);
        DUE.is("an act behind it", x.undo(), 0);
        DUE.about("undone", x, 4, 1, 2, 0, 1, 7, 0, 0);
        x.round(1);
        DUE.is("once more from the same slot", x.again(0), 3);
        DUE.about("as it was kept", x, 4, 1, 2, 0, 1, 7, 0, 0);
    }

    private static void slotsStandApart() {
        HatRound x = Due.square("HP099000P099001T010");
        DUE.is("keep(0)", x.keep(0), 1);
        x.play(0);
        DUE.is("keep(1)", x.keep(1), 2);
        DUE.is("again(0)", x.again(0), 1);
        DUE.is("who waits", x.about(6), 2);
        DUE.is("again(1)", x.again(1), 2);
        DUE.is("who waits", x.about(6), 0);
        x.bait(7);
        DUE.is("kept anew", x.keep(0), 2);
        x.bait(0);
        x.again(0);
        DUE.is("the newer one", x.about(4), 7);
    }

    private static void whatIsNotKept() {
        HatRound x = Due.square("HP099000");
        x.keep(1);
        x.see(0, true);
        x.seed(4);
        x.write('Z');
        x.again(1);
        DUE.is("seen stays", x.about(8), 1);
        DUE.is("the seed stays", x.seed(0), 4);
        DUE.is("the text stays", x.about(9), 9);
    }

    private static void refusals() {
        HatRound x = Due.square("HP099000");
        x.bait(3);
        DUE.is("keep(-1)", x.keep(-1), HatRound.UNKNOWN);
        DUE.is("keep(2)", x.keep(2), HatRound.UNKNOWN);
        DUE.is("again(-1)", x.again(-1), HatRound.UNKNOWN);
        DUE.is("again(2)", x.again(2), HatRound.UNKNOWN);
        DUE.is("again(0) of none", x.again(0), HatRound.LATE);
        x.keep(0);
        DUE.is("again(1) of none", x.again(1), HatRound.LATE);
        DUE.is("acts stay behind a refusal", x.about(7), 1);
        DUE.is("bait stays behind a refusal", x.about(4), 3);
    }
}
