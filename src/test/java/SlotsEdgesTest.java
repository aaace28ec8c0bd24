/** The edges of promises 28 and 29, sentence by sentence: kept and gone on from. */
public final class SlotsEdgesTest {
    private static final Due DUE = new Due("SlotsEdgesTest");

    public static void main(String[] args) {
        whatIsKept();
        whatStaysAsItIs();
        noActs();
        twoSlots();
        keep();
        again();
        DUE.end();
    }

    private static void whatIsKept() {
        DUE.says("SLOTS 0 .. 1 keep THE MINUTE, THE HAT, BAIT, who STANDS, who waits, MOODS, PATIENCE, how often each TUNE was PLAYED");
        for (int slot = 0; slot <= 1; slot++) {
            HatRound x = Due.playedTo("HP099000P090000P099005P199300T119T029", 1);
            x.round(0);
            DUE.is("keep", x.keep(slot), 1);
            x.play(0);
            x.play(1);
            x.bait(9);
            x.round(1);
            DUE.is("again", x.again(slot), 1);
            DUE.about("as it was kept", x, 4, 2, 3, 1, 1, 1, 4, 0);
            DUE.people("moods", x, 1, 0, 9, 9, 20);
            DUE.people("patience", x, 2, 7, HatRound.NONE, 9, 7);
            DUE.is("0 was not played", x.tune(0, 3), 0);
            DUE.is("1 was played once", x.tune(1, 3), 1);
        }
    }

    private static void whatStaysAsItIs() {
        DUE.says("(SEEN, THE SEED, THE TEXT stay as they are; no ACTS when one goes on).");
        HatRound x = Due.square("HP099000P099000");
        x.see(0, true);
        x.seed(4);
        x.keep(0);
        x.see(1, true);
        x.seed(5);
        x.write('Q');
        x.again(0);
        DUE.is("seen", x.about(8), 2);
        DUE.is("what is seen", x.gave(1, 0), 0);
        DUE.is("the seed", x.seed(0), 5);
        DUE.is("the text", x.about(9), 16);
        DUE.is("its fault", x.fault(), 15);
        x.unsee();
        x.wipe();
        x.again(0);
        DUE.is("nothing seen", x.about(8), 0);
        DUE.is("an empty text", x.about(9), 0);
        DUE.is("the square is there", x.about(0), 2);
    }

    private static void noActs() {
        DUE.says("no ACTS when one goes on");
        HatRound x = Due.square("HT010");
        for (int act = 0; act < 15; act++) {
            x.play(0);
        }
        x.keep(1);
        DUE.is("to keep forgets none", x.about(7), 12);
        DUE.is("an act behind it can be undone", x.undo(), 11);
        x.again(1);
        DUE.is("none", x.about(7), 0);
        DUE.is("undo", x.undo(), HatRound.LATE);
        DUE.is("what was kept had 15", x.about(2), 15);
        for (int act = 1; act <= 13; act++) {
            x.play(0);
            DUE.is("acts from there", x.about(7), Math.min(act, 12));
        }
        for (int left = 11; left >= 0; left--) {
            DUE.is("undo", x.undo(), left);
        }
        DUE.is("the first of 13 is forgotten", x.about(2), 16);
    }

    private static void twoSlots() {
        DUE.says("SLOTS 0 .. 1");
        HatRound x = new HatRound();
        x.bait(1);
        x.keep(0);
        x.bait(2);
        x.keep(1);
        x.bait(3);
        x.again(0);
        DUE.is("slot 0", x.about(4), 1);
        x.again(1);
        DUE.is("slot 1", x.about(4), 2);
        x.bait(4);
        x.again(1);
        DUE.is("what came behind it does not touch it", x.about(4), 2);
        x.bait(5);
        x.keep(1);
        x.bait(6);
        x.again(1);
        DUE.is("slot 1, kept anew", x.about(4), 5);
        x.undo();
        x.again(0);
        DUE.is("slot 0, as ever", x.about(4), 1);
    }

    private static void keep() {
        DUE.says("`int keep(int slot)`: They are kept: how many STAND. UNKNOWN.");
        DUE.within("keep", v -> new HatRound().keep(v), 0, 1, HatRound.UNKNOWN);
        for (int people = 0; people <= 6; people++) {
            HatRound x = Due.square("H" + "P099000".repeat(people));
            DUE.is(people + " stand", x.keep(0), people);
        }
        DUE.is("who waits does not stand", Due.square("HP099000P099001").keep(1), 1);
    }

    private static void again() {
        DUE.says("`int again(int slot)`: They are as they were kept: how many STAND. UNKNOWN; LATE: none were kept.");
        DUE.within("again", v -> {
            HatRound x = new HatRound();
            x.keep(0);
            x.keep(1);
            return x.again(v);
        }, 0, 1, HatRound.UNKNOWN);
        HatRound x = Due.square("H" + "P099000".repeat(6) + "T190");
        DUE.is("0 at first", x.again(0), HatRound.LATE);
        DUE.is("1 at first", x.again(1), HatRound.LATE);
        DUE.is("UNKNOWN, though none were kept", x.again(2), HatRound.UNKNOWN);
        DUE.is("UNKNOWN, though none were kept", x.again(-1), HatRound.UNKNOWN);
        x.keep(1);
        DUE.is("0, when 1 is kept", x.again(0), HatRound.LATE);
        x.play(0);
        x.keep(0);
        x.play(0);
        DUE.is("nobody stands any more", x.about(5), 0);
        DUE.is("all stand again", x.again(0), 6);
        DUE.is("all stand again, as bits", x.about(5), 63);
        x.play(0);
        x.keep(0);
        x.again(1);
        DUE.is("all stand", x.about(5), 63);
        DUE.is("none stand", x.again(0), 0);
        x.square();
        DUE.is("gone with the square", x.again(0), HatRound.LATE);
        DUE.is("gone with the square", x.again(1), HatRound.LATE);
    }
}
