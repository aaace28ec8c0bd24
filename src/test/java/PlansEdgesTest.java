/** The edges of promises 13 to 19, sentence by sentence: what would be, which changes nothing. */
public final class PlansEdgesTest {
    private static final Due DUE = new Due("PlansEdgesTest");
    private static final int[] TEN_TIMES = {1, 10, 100, 1000, 10000, 100000, 1000000, 10000000, 100000000};

    public static void main(String[] args) {
        wouldNow();
        would();
        planOfNoneToThree();
        planFirstOfLikeOnes();
        planOfNoTunes();
        plan();
        soonNoneToNine();
        soonFewest();
        soon();
        growsOneToSix();
        grows();
        bestBaitNoneToNine();
        bestBait();
        judgedOneToEight();
        judgedFigures();
        judgedNobodyStands();
        judged();
        never();
        neverByNeeds();
        DUE.end();
    }

    private static void wouldNow() {
        DUE.says("WOULD of a side: how much THE HAT would bring now; who would slip off (bits).");
        HatRound all = Due.square("HP099300P199300P299300P399300P199000P299000");
        DUE.is("from the front: 0, 4, 5 give", all.would(0, 0), 6);
        DUE.is("1, 2, 3 slip off", all.would(0, 1), 14);
        DUE.is("from the back: 3, 5, 4 give", all.would(1, 0), 6);
        DUE.is("0, 1, 2 slip off", all.would(1, 1), 7);
        HatRound five = Due.square("HP099000" + "P399100".repeat(5));
        DUE.is("the last by number", five.would(0, 1), 62);
        DUE.is("nobody from the back", five.would(1, 1), 0);
        HatRound x = Due.playedTo("HP099000P190300P199302T119", 0);
        DUE.is("who left and who waits do not slip off", x.would(0, 1), 0);
        HatRound y = Due.square("HP099000");
        y.round(0);
        DUE.is("what it brings, not what is in it", y.would(0, 0), 0);
        DUE.is("nobody there", new HatRound().would(0, 0) + new HatRound().would(1, 1), 0);
    }

    private static void would() {
        DUE.says("`int would(int side, int what)`: WOULD: how much (what = 0), who slips off (1: bits). BAD: side, what.");
        HatRound x = Due.square("HP099000P199100");
        for (int good = 0; good <= 1; good++) {
            int other = good;
            DUE.within("would(v, " + good + ")", v -> x.would(v, other), 0, 1, HatRound.BAD);
            DUE.within("would(" + good + ", v)", v -> x.would(other, v), 0, 1, HatRound.BAD);
        }
        DUE.is("both", x.would(2, 2), HatRound.BAD);
        DUE.is("nobody there", new HatRound().would(2, 0), HatRound.BAD);
    }

    private static void planIs(String when, HatRound x, int n, int much, int tunes, int side) {
        DUE.is(when + ": plan(" + n + ", 0)", x.plan(n, 0), much);
        DUE.is(when + ": plan(" + n + ", 1)", x.plan(n, 1), tunes);
        DUE.is(when + ": plan(" + n + ", 2)", x.plan(n, 2), side);
    }

    private static void planOfNoneToThree() {
        DUE.says("PLAN of n TUNES (0 .. 3): TUNES one behind the other (any, more than once, too), then THE HAT from a side: by which most comes into THE HAT");
        HatRound last = Due.square("HP009000T110T110T110T113");
        last.bait(9);
        planIs("moods 0, 3, 5, 6", last, 0, 0, 0, 0);
        planIs("the last tune", last, 1, 1, 3, 0);
        planIs("twice", last, 2, 2, 33, 0);
        planIs("three times", last, 3, 3, 333, 0);
        HatRound one = Due.square("HP009000T112");
        one.bait(9);
        planIs("one tune alone: moods 2, 3, 3", one, 1, 1, 0, 0);
        planIs("one tune alone, twice", one, 2, 1, 0, 0);
        HatRound behind = Due.square("HP009000P009001T190T119");
        behind.bait(9);
        planIs("one hears all three, one that comes by the first hears two", behind, 3, 17, 111, 0);
        HatRound full = Due.playedTo("H" + "P099000".repeat(6) + "T119", 0, 0);
        full.bait(9);
        planIs("the most of six", full, 0, 60, 0, 0);
    }

    private static void planFirstOfLikeOnes() {
        DUE.says("of like ones the first (by TUNES, then side): how much, the TUNES (as n figures), the side");
        HatRound x = Due.square("HP019000T110T110T110T111");
        planIs("03, 13, 23, 30 ..", x, 2, 1, 3, 0);
        planIs("003 ..", x, 3, 1, 3, 0);
        HatRound nothing = Due.square("HP009000T110T110T110T110");
        for (int n = 0; n <= 3; n++) {
            planIs("all alike", nothing, n, 0, 0, 0);
        }
        HatRound side = Due.square("HP029000P325300T110T192");
        side.bait(9);
        planIs("0 from the back is like 1 from the front", side, 1, 2, 0, 1);
        HatRound back = Due.square("HP399100");
        planIs("from the back alone", back, 0, 1, 0, 1);
        HatRound front = Due.square("HP099100");
        planIs("from the front alone", front, 0, 1, 0, 0);
    }

    private static void planOfNoTunes() {
        DUE.says("NONE: there are no TUNES (n more than none).");
        HatRound x = Due.square("HP399100");
        for (int what = 0; what <= 2; what++) {
            for (int n = 1; n <= 3; n++) {
                DUE.is("plan(" + n + ", " + what + ")", x.plan(n, what), HatRound.NONE);
                DUE.is("a new object's plan(" + n + ", " + what + ")", new HatRound().plan(n, what), HatRound.NONE);
            }
            DUE.is("BAD, not NONE", x.plan(4, what), HatRound.BAD);
            DUE.is("BAD, not NONE", x.plan(-1, what), HatRound.BAD);
        }
        DUE.is("BAD, not NONE", x.plan(1, 3), HatRound.BAD);
        DUE.is("BAD, not NONE", x.plan(3, -1), HatRound.BAD);
        planIs("none of no tunes", x, 0, 1, 0, 1);
        planIs("nobody, no tunes", new HatRound(), 0, 0, 0, 0);
        planIs("nobody, one tune", Due.square("HT010"), 3, 0, 0, 0);
    }

    private static void plan() {
        DUE.says("`int plan(int n, int what)`: PLAN: how much (what = 0), TUNES (1; 0 if n is 0), the side (2); NONE. BAD: n, what.");
        HatRound x = Due.square("HP399100T010T010");
        for (int what = 0; what <= 2; what++) {
            int other = what;
            DUE.within("plan(v, " + what + ")", v -> x.plan(v, other), 0, 3, HatRound.BAD);
        }
        for (int n = 0; n <= 3; n++) {
            int other = n;
            DUE.within("plan(" + n + ", v)", v -> x.plan(other, v), 0, 2, HatRound.BAD);
        }
        DUE.is("0 if n is 0", x.plan(0, 1), 0);
    }

    private static void soonNoneToNine() {
        DUE.says("SOON for a TUNE: behind how many times that it is PLAYED (0 .. 9) THE HAT from side 0 brings most");
        for (int best = 0; best <= 9; best++) {
            HatRound x = Due.square("HP00" + best + "000T010");
            x.bait(9);
            DUE.is("as often as patience lasts", x.soon(0), best);
        }
        // 1 comes by the first time, so that the tenth would bring more than the ninth.
        HatRound y = Due.square("HP009000P009011T110");
        y.bait(9);
        DUE.is("no tenth time", y.soon(0), 9);
    }

    private static void soonFewest() {
        DUE.says("of like ones the fewest.");
        HatRound x = Due.square("HP029000T119");
        DUE.is("at most 1 by no bait", x.soon(0), 0);
        DUE.is("nobody", Due.square("HT010").soon(0), 0);
        HatRound y = Due.square("HP019000T111");
        DUE.is("1 time as good as 9", y.soon(0), 1);
        y.round(0);
        DUE.is("what is in the hat does not count", y.soon(0), 0);
    }

    private static void soon() {
        DUE.says("`int soon(int tune)`: SOON. UNKNOWN.");
        for (int tunes = 1; tunes <= 4; tunes++) {
            HatRound x = Due.square("H" + "T010".repeat(tunes));
            DUE.within("soon of " + tunes, x::soon, 0, tunes - 1, HatRound.UNKNOWN);
        }
        DUE.is("no tunes", new HatRound().soon(0), HatRound.UNKNOWN);
    }

    private static void growsOneToSix() {
        DUE.says("GROWS: how many STAND behind a row of n TUNES (1 .. 6; figures).");
        // By each tune one comes, so that the answer tells how many were played.
        HatRound x = Due.square("HP009005P009004P009003P009002P009001P009000T110");
        int[] stand = {0, 2, 3, 4, 5, 6, 6};
        for (int n = 1; n <= 6; n++) {
            DUE.is("grows(" + n + ", 0)", x.grows(n, 0), stand[n]);
        }
        DUE.is("grows(0, 0)", x.grows(0, 0), HatRound.BAD);
        DUE.is("grows(7, 0)", x.grows(7, 0), HatRound.BAD);
        // 6 minutes are borne, not 7: the long tune at just one place.
        HatRound y = Due.square("HP006000T110T120");
        DUE.is("six short ones", y.grows(6, 0), 1);
        for (int place = 0; place < 6; place++) {
            DUE.is("one long one, " + place + " short ones behind it", y.grows(6, TEN_TIMES[place]), 0);
            DUE.is("one long one of five", y.grows(5, TEN_TIMES[Math.min(place, 4)]), 1);
        }
        DUE.is("nobody", Due.square("HT010").grows(6, 0), 0);
    }

    private static void grows() {
        DUE.says("`int grows(int n, int row)`: GROWS. BAD: n, row (0 or more, n figures at most, TUNES that there are).");
        HatRound x = Due.square("HP099000T010T010T010T010");
        DUE.within("grows(v, 0)", v -> x.grows(v, 0), 1, 6, HatRound.BAD);
        for (int n = 1; n <= 6; n++) {
            int most = 3 * (TEN_TIMES[n] - 1) / 9;
            DUE.is("the least row of " + n, x.grows(n, 0), 1);
            DUE.is("the most of " + n, x.grows(n, most), 1);
            DUE.is("-1 of " + n, x.grows(n, -1), HatRound.BAD);
            DUE.is("a figure too many for " + n, x.grows(n, TEN_TIMES[n]), HatRound.BAD);
            DUE.is("a figure too many, good ones, for " + n, x.grows(n, 10 * most + 3), HatRound.BAD);
            DUE.is("the least of all for " + n, x.grows(n, Integer.MIN_VALUE), HatRound.BAD);
            DUE.is("the most of all for " + n, x.grows(n, Integer.MAX_VALUE), HatRound.BAD);
            for (int place = 0; place < n; place++) {
                DUE.is("no tune 4, " + place + " behind it", x.grows(n, 4 * TEN_TIMES[place]), HatRound.BAD);
                DUE.is("a tune 3, " + place + " behind it", x.grows(n, 3 * TEN_TIMES[place]), 1);
            }
        }
        for (int tunes = 0; tunes <= 4; tunes++) {
            HatRound y = Due.square("HP099000" + "T010".repeat(tunes));
            for (int tune = 0; tune <= 9; tune++) {
                DUE.is("tune " + tune + " of " + tunes, y.grows(1, tune), tune < tunes ? 1 : HatRound.BAD);
            }
        }
    }

    private static void bestBaitNoneToNine() {
        DUE.says("BAIT that is BEST for a side: that (0 .. 9) by which THE HAT brings most now; of like ones the least.");
        int[] best = {0, 0, 0, 0, 1, 1, 2, 2, 3, 3, 4, 4, 5, 5, 6, 6, 7, 7, 8, 8, 9};
        for (int mood = 0; mood <= 20; mood++) {
            HatRound x = Due.ofMood(mood);
            DUE.is("mood " + mood, x.bestBait(0), best[mood]);
            x.bait(9);
            DUE.is("mood " + mood + ", whatever is laid", x.bestBait(1), best[mood]);
            x.round(0);
            DUE.is("nothing more to be had", x.bestBait(0), 0);
        }
        // 1, 2, 3, 4 without any; the first gives 4 only by 3.
        HatRound y = Due.square("HP089000P189000P289000P389000");
        DUE.is("what grows as the hat goes round", y.bestBait(0), 3);
        DUE.is("a greater one that comes last needs none", Due.square("HP029000P149000").bestBait(0), 0);
        DUE.is("from the back it does", Due.square("HP029000P149000").bestBait(1), 1);
        DUE.is("nobody", new HatRound().bestBait(0), 0);
    }

    private static void bestBait() {
        DUE.says("`int bestBait(int side)`: BAIT that is BEST. BAD: side.");
        DUE.within("bestBait", Due.square("HP099000")::bestBait, 0, 1, HatRound.BAD);
        DUE.within("bestBait, nobody", new HatRound()::bestBait, 0, 1, HatRound.BAD);
    }

    private static void judgedOneToEight() {
        DUE.says("JUDGED: a row of n ACTS (1 .. 8) as figures");
        HatRound x = Due.square("HP009000T110");
        for (int n = 1; n <= 8; n++) {
            DUE.is("all can be, " + n, x.judged(n, 0), HatRound.NONE);
            for (int place = 0; place < n; place++) {
                DUE.is("a figure 9 at " + place + " of " + n, x.judged(n, 9 * TEN_TIMES[n - 1 - place]), place);
            }
        }
        DUE.is("judged(0, 0)", x.judged(0, 0), HatRound.BAD);
        DUE.is("judged(9, 0)", x.judged(9, 0), HatRound.BAD);
    }

    private static void judgedFigures() {
        DUE.says("0 .. 3 TUNES, 4, 5 THE HAT from side 0, 1: the place (from 0) of the first that can not be (no such TUNE or figure)");
        for (int tunes = 0; tunes <= 4; tunes++) {
            HatRound x = Due.square("HP099000" + "T110".repeat(tunes));
            for (int figure = 0; figure <= 9; figure++) {
                boolean canBe = figure < tunes || figure == 4 || figure == 5;
                DUE.is("figure " + figure + " of " + tunes + " tunes", x.judged(1, figure), canBe ? HatRound.NONE : 0);
                DUE.is("behind the hat, " + figure + " of " + tunes + " tunes", x.judged(2, 40 + figure), canBe ? HatRound.NONE : 1);
            }
        }
        HatRound y = Due.square("HP399100");
        DUE.is("4 is from the front", y.judged(1, 4), 0);
        DUE.is("5 is from the back", y.judged(1, 5), HatRound.NONE);
        DUE.is("the first of two", Due.square("HP099000").judged(4, 4699), 1);
    }

    private static void judgedNobodyStands() {
        DUE.says("or behind which nobody STANDS; NONE: none.");
        for (int patience = 0; patience <= 9; patience++) {
            HatRound x = Due.square("HP00" + patience + "000T110");
            DUE.is("patience " + patience, x.judged(8, 0), patience < 8 ? patience : HatRound.NONE);
        }
        HatRound y = Due.square("HP001000T110");
        DUE.is("ahead of what can not be", y.judged(3, 9), 1);
        DUE.is("behind what can not be", y.judged(3, 90), 1);
        DUE.is("what can not be, first", y.judged(3, 900), 0);
        DUE.is("one is left", Due.square("HP001000P009000T110").judged(2, 0), HatRound.NONE);
        DUE.is("one comes as the other leaves: too late", Due.square("HP000000P009001T110").judged(1, 0), 0);
        DUE.is("one came ahead", Due.square("HP001000P009001T110").judged(2, 0), HatRound.NONE);
        HatRound nobody = new HatRound();
        for (int figure = 0; figure <= 9; figure++) {
            DUE.is("nobody, figure " + figure, nobody.judged(1, figure), 0);
        }
    }

    private static void judged() {
        DUE.says("`int judged(int n, int row)`: JUDGED; NONE. BAD: n, row (0 or more, n figures at most).");
        HatRound x = Due.square("HP099000T010");
        DUE.within("judged(v, 0)", v -> x.judged(v, 0), 1, 8, HatRound.BAD);
        for (int n = 1; n <= 8; n++) {
            DUE.is("the most of " + n, x.judged(n, TEN_TIMES[n] - 1), 0);
            DUE.is("a figure too many for " + n, x.judged(n, TEN_TIMES[n]), HatRound.BAD);
            DUE.is("-1 of " + n, x.judged(n, -1), HatRound.BAD);
            DUE.is("the least of all for " + n, x.judged(n, Integer.MIN_VALUE), HatRound.BAD);
            DUE.is("the most of all for " + n, x.judged(n, Integer.MAX_VALUE), HatRound.BAD);
        }
        DUE.is("nobody, no tunes", new HatRound().judged(8, TEN_TIMES[8]), HatRound.BAD);
    }

    private static void never() {
        DUE.says("`int never()`: NEVER, as bits.");
        DUE.is("nobody", new HatRound().never(), 0);
        DUE.is("nobody waits", Due.square("H" + "P099000".repeat(6)).never(), 0);
        DUE.is("all wait", Due.square("H" + "P099001".repeat(6)).never(), 63);
        for (int one = 0; one < 6; one++) {
            StringBuilder text = new StringBuilder("H");
            for (int person = 0; person < 6; person++) {
                boolean leaves = person == (one + 1) % 6;
                text.append(person == one ? "P099005" : leaves ? "P090000" : "P099000");
            }
            HatRound x = Due.playedTo(text + "T110", 0);
            DUE.is("four stand, only " + one + " waits", x.never(), 1 << one);
            x.undo();
            DUE.is("five stand, only " + one + " waits", x.never(), 0);
        }
    }

    private static void neverByNeeds() {
        DUE.says("NEVER: who waits and would not come, if from now on nobody left, however long it went on (though there were no TUNES; bits).");
        for (int standing = 0; standing <= 5; standing++) {
            for (int needs = 1; needs <= 5; needs++) {
                HatRound x = Due.square("HP09900" + needs + "P099000".repeat(standing));
                DUE.is(standing + " stand, it needs " + needs, x.never(), standing >= needs ? 0 : 1);
            }
        }
        DUE.is("five times one more", Due.square("HP009005P009004P009003P009002P009001P009000").never(), 0);
        DUE.is("one too few at the end", Due.square("HP009005P009005P009003P009002P009001P009000").never(), 3);
        DUE.is("one too few in the midst", Due.square("HP009005P009005P009004P009002P009001P009000").never(), 7);
        HatRound y = Due.playedTo("HP000000P009001P009000P009003T110", 0);
        DUE.is("1 came, 0 left", y.about(5), 6);
        DUE.is("who left is not told, nor counted", y.never(), 8);
        HatRound z = Due.square("HP000000P009001T190");
        DUE.is("though the next tune drives all off", z.never(), 0);
    }
}
