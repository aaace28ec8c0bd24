/** The edges of promises 9 to 12, sentence by sentence: tunes played, the hat round, bait laid, all undone. */
public final class ActsEdgesTest {
    private static final Due DUE = new Due("ActsEdgesTest");

    public static void main(String[] args) {
        patienceLessThanNone();
        goodNoneAtLeast();
        tasteByTwo();
        moodTwentyAtMost();
        asManyAsItNeeds();
        byNumberOnce();
        whoComesHearsNothing();
        minuteByLength();
        giftIsHalfCut();
        giftOneMoreThanBait();
        giftByBaitAsItIsByThen();
        hatFromEachSide();
        baitIsAsMuch();
        moodIsNone();
        whoSlipsOff();
        emptyRowIsVisited();
        hatTakesAMinute();
        baitZeroToNine();
        baitIsNoCoinOfTheHat();
        twelveActs();
        actsWrapAround();
        lastActUndone();
        play();
        round();
        bait();
        undo();
        callsOf512();
        DUE.end();
    }

    private static void patienceLessThanNone() {
        DUE.says("PLAYED: a TUNE: each that STANDS has PATIENCE less by its length (who has less than none then leaves)");
        for (int minutes = 1; minutes <= 9; minutes++) {
            for (int patience = 0; patience <= 9; patience++) {
                HatRound x = Due.square("HP00" + patience + "000T1" + minutes + "3");
                boolean stays = patience >= minutes;
                String when = "patience " + patience + ", minutes " + minutes;
                DUE.is(when + ": stand", x.play(0), stays ? 1 : 0);
                DUE.is(when + ": patience", x.person(0, 2), stays ? patience - minutes : HatRound.NONE);
                DUE.is(when + ": who leaves hears nothing", x.person(0, 1), stays ? 3 : 0);
                DUE.is(when + ": who leaves does not wait", x.about(6), 0);
            }
        }
    }

    private static void goodNoneAtLeast() {
        DUE.says("else MOOD more by GOOD less how often it was PLAYED already (0 at least)");
        for (int good = 0; good <= 9; good++) {
            HatRound x = Due.square("HP009000T11" + good);
            int mood = 0;
            for (int times = 0; times < 9; times++) {
                x.play(0);
                mood += Math.max(0, good - times);
                DUE.is("good " + good + ", played " + times + " times ahead", x.person(0, 1), Math.min(mood, 20));
            }
        }
        HatRound y = Due.square("HP009000T111T111");
        y.play(0);
        y.play(1);
        DUE.is("each tune tires by itself", y.person(0, 1), 2);
        y.play(0);
        y.play(1);
        DUE.is("none at least", y.person(0, 1), 2);
        y.play(0);
        DUE.is("not less than none", y.person(0, 1), 2);
    }

    private static void tasteByTwo() {
        DUE.says("and by 2 more, if its KIND is its TASTE");
        for (int kind = 0; kind <= 2; kind++) {
            for (int taste = 0; taste <= 2; taste++) {
                HatRound x = Due.square("HP0090" + taste + "0T" + kind + "11");
                x.play(0);
                DUE.is("kind " + kind + ", taste " + taste, x.person(0, 1), kind == taste ? 3 : 1);
                x.play(0);
                DUE.is("the tired one, kind " + kind + ", taste " + taste, x.person(0, 1), kind == taste ? 5 : 1);
                x.play(0);
                DUE.is("2 though it tired out, kind " + kind + ", taste " + taste, x.person(0, 1), kind == taste ? 7 : 1);
            }
        }
    }

    private static void moodTwentyAtMost() {
        DUE.says("(20 at most)");
        // 9, 9 and what is told last: 18 and 1, 2, 3.
        DUE.is("19", Due.playedTo("HP099000T119T111", 0, 1).person(0, 1), 19);
        DUE.is("20", Due.playedTo("HP099000T119T112", 0, 1).person(0, 1), 20);
        DUE.is("not 21", Due.playedTo("HP099000T119T113", 0, 1).person(0, 1), 20);
        DUE.is("20 by taste", Due.playedTo("HP099000T119T010", 0, 1).person(0, 1), 20);
        DUE.is("not 21 by taste", Due.playedTo("HP099000T119T011", 0, 1).person(0, 1), 20);
        DUE.is("20 stays", Due.playedTo("HP099000T119T112T010T119", 0, 1, 2, 3).person(0, 1), 20);
    }

    private static void asManyAsItNeeds() {
        DUE.says("each that waits comes, if at least as many as it NEEDS STAND by then");
        for (int standing = 0; standing <= 5; standing++) {
            for (int needs = 1; needs <= 5; needs++) {
                HatRound x = Due.square("H" + "P009000".repeat(standing) + "P00900" + needs + "T110");
                boolean comes = standing >= needs;
                String when = standing + " stand, it needs " + needs;
                DUE.is(when, x.play(0), standing + (comes ? 1 : 0));
                DUE.is(when + ": waits", x.about(6), comes ? 0 : 1 << standing);
            }
        }
        HatRound y = Due.square("HP009000P000000P009002T110");
        DUE.is("who leaves by the tune does not count", y.play(0), 1);
        DUE.is("so it waits", y.about(6), 4);
    }

    private static void byNumberOnce() {
        DUE.says("then, by number, once, each that waits comes");
        HatRound x = Due.square("HP009005P009004P009003P009002P009001P009000T110");
        int[] stand = {48, 56, 60, 62, 63, 63};
        for (int times = 0; times < 6; times++) {
            x.play(0);
            DUE.is("one comes by a tune, " + times, x.about(5), stand[times]);
        }
        DUE.says("(those that came ahead of it, too; who comes so hears nothing of this TUNE)");
        HatRound y = Due.square("HP009000P009001P009002P009003P009004P009005T110");
        DUE.is("all come by one tune", y.play(0), 6);
        HatRound z = Due.square("HP009000P009001P009003P009002T110");
        DUE.is("one too few ahead of it", z.play(0), 3);
        DUE.is("it is no more asked", z.about(6), 4);
        DUE.is("it comes by the next", z.play(0), 4);
    }

    private static void whoComesHearsNothing() {
        DUE.says("who comes so hears nothing of this TUNE");
        HatRound x = Due.playedTo("HP009000P050001T099", 0);
        DUE.is("it has its mood", x.person(1, 1), 5);
        DUE.is("it has its patience", x.person(1, 2), 0);
        DUE.is("both stand", x.about(5), 3);
        DUE.is("both leave by the next", x.play(0), 0);
    }

    private static void minuteByLength() {
        DUE.says("THE MINUTE is more by its length.");
        for (int minutes = 1; minutes <= 9; minutes++) {
            HatRound x = Due.square("HT0" + minutes + "0");
            x.play(0);
            DUE.is("though nobody stands", x.about(2), minutes);
            x.play(0);
            DUE.is("twice", x.about(2), 2 * minutes);
        }
    }

    private static void giftIsHalfCut() {
        DUE.says("A GIFT of one is half its MOOD (cut)");
        int[] half = {0, 0, 1, 1, 2, 2, 3, 3, 4, 4, 5, 5, 6, 6, 7, 7, 8, 8, 9, 9, 10};
        for (int mood = 0; mood <= 20; mood++) {
            HatRound x = Due.ofMood(mood);
            x.bait(9);
            DUE.is("mood " + mood, x.person(0, 6), half[mood]);
            DUE.is("mood " + mood + ", given", x.round(0), half[mood]);
        }
    }

    private static void giftOneMoreThanBait() {
        DUE.says("at most 1 more than BAIT");
        HatRound x = Due.ofMood(20);
        for (int bait = 9; bait >= 0; bait--) {
            x.bait(bait);
            DUE.is("bait " + bait, x.person(0, 6), bait + 1);
            DUE.is("bait " + bait + ", would be given", x.would(0, 0), bait + 1);
        }
        HatRound y = Due.ofMood(9);
        int[] gift = {1, 2, 3, 4, 4, 4, 4, 4, 4, 4};
        for (int bait = 9; bait >= 0; bait--) {
            y.bait(bait);
            DUE.is("of a mood of 9 by " + bait, y.person(0, 6), gift[bait]);
        }
    }

    private static void giftByBaitAsItIsByThen() {
        DUE.says("(as it is by then)");
        HatRound x = Due.square("HP099000P099000P199000P299000P399000P399000");
        DUE.is("1, 2, 3, 4, 4, 4", x.round(0), 18);
        HatRound y = Due.square("HP019000P099000");
        DUE.is("none, then 1", y.round(0), 1);
        HatRound z = Due.square("HP099000P029000P099000");
        DUE.is("1, 1, 2: one that is not more leaves it", z.round(0), 4);
    }

    private static void hatFromEachSide() {
        DUE.says("THE HAT ROUND from a side (0: ROWS 0, 1, 2, 3; 1: ROWS 3, 2, 1, 0)");
        String rising = "HP029000P149000P269000P389000";
        String falling = "HP089000P169000P249000P329000";
        DUE.is("rising, side 0: 1, 2, 3, 4", Due.square(rising).round(0), 10);
        DUE.is("rising, side 1: 1, 2, 2, 1", Due.square(rising).round(1), 6);
        DUE.is("falling, side 0: 1, 2, 2, 1", Due.square(falling).round(0), 6);
        DUE.is("falling, side 1: 1, 2, 3, 4", Due.square(falling).round(1), 10);
        DUE.says("ROW by ROW: each of that ROW that STANDS, by number, gives its GIFT into THE HAT");
        String within = "HP189000P169000P149000P129000";
        DUE.is("by number, from the front", Due.square(within).round(0), 6);
        DUE.is("by number, from the back, too", Due.square(within).round(1), 6);
        HatRound x = Due.playedTo("HP090000P099000P099005T119", 0);
        DUE.is("who left and who waits give nothing", x.round(0), 1);
        DUE.is("only the one that stands gave", x.person(1, 1), 0);
        DUE.is("mood of who left", x.person(0, 1), 9);
        DUE.is("mood of who waits", x.person(2, 1), 9);
    }

    private static void baitIsAsMuch() {
        DUE.says("if that is more than BAIT, BAIT is as much");
        for (int bait = 0; bait <= 9; bait++) {
            HatRound x = Due.square("HP089000");
            if (bait > 0) {
                x.bait(bait);
            }
            x.round(0);
            DUE.is("a gift of 4 at most on " + bait, x.about(4), bait < 4 ? bait + 1 : bait);
        }
        HatRound x = Due.ofMood(20);
        x.bait(9);
        DUE.is("10", x.round(0), 10);
        DUE.is("10, which can not be laid", x.about(4), 10);
        DUE.is("nothing given", x.round(0), 0);
        DUE.is("leaves it", x.about(4), 10);
    }

    private static void moodIsNone() {
        DUE.says("its MOOD is 0");
        HatRound x = Due.square("HP099000P199100P009000P099005");
        x.round(0);
        DUE.people("who gave, who slipped off, who had none, who waits", x, 1, 0, 9, 0, 9);
        DUE.is("a gift behind it", x.person(0, 6), 0);
        DUE.is("it stands still", x.about(5), 5);
        DUE.people("patience stays", x, 2, 9, 9, 9, 9);
    }

    private static void whoSlipsOff() {
        DUE.says("then each that STANDS in a ROW not visited so far slips off (leaves), if that ROW is no more ROWS from the visited one than it is SHY");
        for (int row = 0; row <= 3; row++) {
            for (int shy = 0; shy <= 3; shy++) {
                String text = "HP" + row + "99" + shy + "00";
                String when = "row " + row + ", shy " + shy;
                boolean fromFront = shy >= 1 && row != 0;
                boolean fromBack = shy >= 1 && row != 3;
                DUE.is(when + ", from the front", Due.square(text).round(0), fromFront ? 0 : 1);
                DUE.is(when + ", from the back", Due.square(text).round(1), fromBack ? 0 : 1);
                DUE.is(when + ", who slips off from the front", Due.square(text).would(0, 1), fromFront ? 1 : 0);
                DUE.is(when + ", who slips off from the back", Due.square(text).would(1, 1), fromBack ? 1 : 0);
            }
        }
        HatRound x = Due.square("HP099300P199300P299300P399305");
        x.round(0);
        DUE.is("rows visited stay, one that waits does not slip", x.about(5), 1);
        DUE.is("it waits", x.about(6), 8);
    }

    private static void emptyRowIsVisited() {
        DUE.says("(also where nobody STANDS in the visited one)");
        DUE.is("nobody at all in row 0", Due.square("HP199100").round(0), 0);
        DUE.is("nobody at all in row 3", Due.square("HP299100").round(1), 0);
        DUE.is("only one that waits there", Due.square("HP199100P099005").round(0), 0);
    }

    private static void hatTakesAMinute() {
        DUE.says("THE MINUTE is 1 more.");
        HatRound x = new HatRound();
        for (int times = 1; times <= 14; times++) {
            DUE.is("it brings nothing", x.round(times % 2), 0);
            DUE.is("though nobody is there", x.about(2), times);
        }
        HatRound y = Due.square("HP099000P099000P199000P399000");
        y.round(1);
        DUE.is("one minute for all rows", y.about(2), 1);
    }

    private static void baitZeroToNine() {
        DUE.says("BAIT is laid: another BAIT (0 .. 9) than there is");
        DUE.within("bait on 5", v -> {
            HatRound x = new HatRound();
            x.bait(5);
            return v == 5 ? 0 : x.bait(v);
        }, 0, 9, HatRound.BAD);
        for (int v = 1; v <= 9; v++) {
            HatRound x = new HatRound();
            DUE.is("what it was", x.bait(v), 0);
            DUE.is("what it is", x.about(4), v);
            DUE.is("it is so", x.bait(v), HatRound.LATE);
            DUE.is("back to none", x.bait(0), v);
            DUE.is("none is so", x.bait(0), HatRound.LATE);
        }
    }

    private static void baitIsNoCoinOfTheHat() {
        DUE.says("(a coin of one's own; it does not count in THE HAT)");
        HatRound x = Due.square("HP029000");
        x.bait(9);
        DUE.is("not when laid", x.about(3), 0);
        DUE.is("not by the hat", x.round(0), 1);
        DUE.is("not behind it", x.about(3), 1);
        x.bait(0);
        DUE.is("not when taken off", x.about(3), 1);
        DUE.is("no minute", x.about(2), 1);
    }

    private static void twelveActs() {
        DUE.says("ACTS (PLAYED, THE HAT, BAIT) are a row (12 at most; when it is full, the first one is forgotten)");
        HatRound x = Due.square("HT010");
        for (int act = 1; act <= 12; act++) {
            x.play(0);
            DUE.is("acts", x.about(7), act);
        }
        HatRound y = Due.square("HT010");
        for (int act = 1; act <= 13; act++) {
            y.play(0);
        }
        DUE.is("acts behind the 13th", y.about(7), 12);
        for (int left = 11; left >= 0; left--) {
            DUE.is("undo of 12", x.undo(), left);
            DUE.is("undo of 13", y.undo(), left);
        }
        DUE.is("12 are undone wholly", x.about(2), 0);
        DUE.is("the first of 13 is forgotten", y.about(2), 1);
        DUE.is("none of 12 is left", x.undo(), HatRound.LATE);
        DUE.is("none of 13 is left", y.undo(), HatRound.LATE);
    }

    private static void actsWrapAround() {
        DUE.says("when it is full, the first one is forgotten");
        for (int acts = 10; acts <= 40; acts++) {
            HatRound x = Due.square("HT010");
            for (int act = 0; act < acts; act++) {
                x.play(0);
            }
            for (int undone = 1; undone <= 5; undone++) {
                x.undo();
                DUE.is(undone + " undone of " + acts, x.about(2), acts - undone);
            }
            for (int act = 0; act < 9; act++) {
                x.round(0);
            }
            int kept = Math.min(12, Math.min(12, acts) - 5 + 9);
            DUE.is("acts behind " + acts + ", less 5, 9 more", x.about(7), kept);
            for (int left = kept - 1; left >= 0; left--) {
                DUE.is("undo", x.undo(), left);
            }
            DUE.is("as many undone as there were", x.about(2), acts - 5 + 9 - kept);
        }
    }

    private static void lastActUndone() {
        DUE.says("the last one can be undone.");
        HatRound x = Due.square("HP099000P090000P099002P199300T119");
        x.bait(3);
        x.play(0);
        x.round(0);
        DUE.about("behind all", x, 4, 1, 2, 8, 4, 5, 0, 3);
        DUE.is("the hat", x.undo(), 2);
        DUE.about("the hat undone", x, 4, 1, 1, 0, 3, 13, 0, 2);
        DUE.people("moods", x, 1, 18, 9, 9, 18);
        DUE.people("patience", x, 2, 8, HatRound.NONE, 9, 8);
        DUE.is("the tune", x.undo(), 1);
        DUE.about("the tune undone", x, 4, 1, 0, 0, 3, 11, 4, 1);
        DUE.people("moods", x, 1, 9, 9, 9, 9);
        DUE.people("patience", x, 2, 9, 0, 9, 9);
        DUE.is("played", x.tune(0, 3), 0);
        DUE.is("the bait", x.undo(), 0);
        DUE.about("the bait undone", x, 4, 1, 0, 0, 0, 11, 4, 0);
    }

    private static void play() {
        DUE.says("`int play(int tune)`: PLAYED: how many STAND then. UNKNOWN.");
        for (int tunes = 1; tunes <= 4; tunes++) {
            HatRound x = Due.square("H" + "T010".repeat(tunes));
            DUE.within("play of " + tunes, x::play, 0, tunes - 1, HatRound.UNKNOWN);
        }
        DUE.is("no tunes", Due.square("HP099000").play(0), HatRound.UNKNOWN);
        DUE.is("nobody", Due.square("HT010").play(0), 0);
        DUE.is("the last leaves", Due.square("HP000000T010").play(0), 0);
        DUE.is("all six", Due.square("H" + "P099000".repeat(6) + "T010").play(0), 6);
    }

    private static void round() {
        DUE.says("`int round(int side)`: THE HAT ROUND: how much it brings. BAD: side (0, 1).");
        DUE.within("round", v -> Due.square("HP099000").round(v), 0, 1, HatRound.BAD);
        DUE.within("round, nobody", v -> new HatRound().round(v), 0, 1, HatRound.BAD);
        HatRound x = Due.square("HP099000T019");
        DUE.is("what it brings", x.round(0), 1);
        x.play(0);
        DUE.is("not what is in it", x.round(0), 2);
        DUE.is("what is in it", x.about(3), 3);
        HatRound six = Due.playedTo("H" + "P099000".repeat(6) + "T119", 0, 0);
        six.bait(9);
        DUE.is("the most of six", six.round(1), 60);
    }

    private static void bait() {
        DUE.says("`int bait(int v)`: BAIT is laid: what it was. BAD; LATE: it is so.");
        HatRound x = Due.ofMood(20);
        DUE.is("0 is so", x.bait(0), HatRound.LATE);
        DUE.is("9", x.bait(9), 0);
        DUE.is("9 is so", x.bait(9), HatRound.LATE);
        x.round(0);
        DUE.is("10 is so, but BAD is told first", x.bait(10), HatRound.BAD);
        DUE.is("it was 10", x.bait(9), 10);
        DUE.is("acts: two tunes, two baits, the hat", x.about(7), 5);
    }

    private static void undo() {
        DUE.says("`int undo()`: The last ACT is undone: how many are left. LATE: there is none.");
        HatRound x = new HatRound();
        DUE.is("at first", x.undo(), HatRound.LATE);
        x.round(0);
        DUE.is("none left", x.undo(), 0);
        DUE.is("there is none", x.undo(), HatRound.LATE);
        x.round(0);
        x.bait(1);
        DUE.is("one left", x.undo(), 1);
        Due.write(x, "H");
        x.square();
        DUE.is("none of another square", x.undo(), HatRound.LATE);
        x.keep(0);
        x.round(0);
        x.again(0);
        DUE.is("none when one went on", x.undo(), HatRound.LATE);
    }

    private static void callsOf512() {
        DUE.says("An object is used for at most 512 calls after it has been made; what later calls answer is free.");
        // A wipe, five bytes and the square are 7 calls; 503 tunes make 510.
        HatRound x = Due.square("HT290");
        for (int times = 0; times < 503; times++) {
            x.play(0);
        }
        DUE.is("the 511th call", x.tune(0, 3), 503);
        DUE.is("the 512th call", x.about(2), 503 * 9);
        for (int later = 0; later < 5000; later++) {
            x.play(0);
            x.round(later % 2);
            x.write('H');
            x.see(0, true);
            x.undo();
        }
    }
}
