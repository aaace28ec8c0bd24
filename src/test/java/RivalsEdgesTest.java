/** The edges of promises 20 and 21, sentence by sentence: two players that play louder, one who collects. */
public final class RivalsEdgesTest {
    private static final Due DUE = new Due("RivalsEdgesTest");

    public static void main(String[] args) {
        restsOfEachK();
        alikeHaveHalf();
        louder();
        tenths();
        takesOrLeaves();
        shares();
        DUE.end();
    }

    private static void restsOfEachK() {
        DUE.says("RESTS: pairs in which neither has more by choosing otherwise alone: how many; the first one (10 times the one and the other); NONE.");
        HatRound x = new HatRound();
        // By 1: 0 and 0 have 1 each, and 1 brings 2 less 1; so 00, 01, 10, 11. By 5: 22, where 3 brings 10 less 9, as much as 5 less 4.
        int[] count = {0, 4, 1, 1, 1, 1};
        int[] first = {0, 0, 11, 11, 22, 22};
        for (int k = 1; k <= 20; k++) {
            DUE.is("louder(" + k + ", 0)", x.louder(k, 0), k <= 5 ? count[k] : 0);
            DUE.is("louder(" + k + ", 1)", x.louder(k, 1), k <= 5 ? first[k] : HatRound.NONE);
        }
    }

    private static void alikeHaveHalf() {
        DUE.says("LOUDER: two players choose how loud they are (0 .. 5); k people (1 .. 20) go to the louder one (to each half, if they are alike); each has 2 for one that comes (1 for half a one), less its loudness times itself");
        HatRound x = new HatRound();
        DUE.is("by 1 the least loudness rests", x.louder(1, 1), 0);
        DUE.is("by 2 it does not: 4 less 1 is more than 2", x.louder(2, 1), 11);
        DUE.is("by 3 one rests: 6 less 4 is as much as 3 less 1", x.louder(3, 1), 11);
        DUE.is("by 4 it does not: 8 less 4 is more than 4 less 1", x.louder(4, 1), 22);
        DUE.is("by 6 two does not: 12 less 9 is more than 6 less 4, and three has less than none", x.louder(6, 0), 0);
        DUE.is("by 20 the loudest two have less than none", x.louder(20, 0), 0);
    }

    private static void louder() {
        DUE.says("`int louder(int k, int what)`: LOUDER: how many (what = 0), the first one (1); NONE (of 1). BAD: k, what.");
        HatRound x = new HatRound();
        DUE.within("louder(v, 0)", v -> x.louder(v, 0), 1, 20, HatRound.BAD);
        DUE.within("louder(v, 1)", v -> x.louder(v, 1), 1, 20, HatRound.BAD);
        DUE.within("louder(1, v)", v -> x.louder(1, v), 0, 1, HatRound.BAD);
        DUE.within("louder(20, v)", v -> x.louder(20, v), 0, 1, HatRound.BAD);
        DUE.is("none: how many", x.louder(6, 0), 0);
        DUE.is("none: the first one", x.louder(6, 1), HatRound.NONE);
    }

    private static void tenths() {
        DUE.says("SHARES of a collector: he brings t (0 .. 99), has x tenths (0 .. 10) of it (cut)");
        HatRound x = new HatRound();
        int[] of99 = {0, 9, 19, 29, 39, 49, 59, 69, 79, 89, 99};
        for (int tenths = 1; tenths <= 10; tenths++) {
            DUE.is("just enough by " + tenths, x.shares(99, of99[tenths], 0), tenths);
            DUE.is("one more than by " + (tenths - 1), x.shares(99, of99[tenths - 1] + 1, 0), tenths);
        }
        DUE.is("no tenths", x.shares(99, 0, 0), 0);
        DUE.is("nothing brought, nothing wanted", x.shares(0, 0, 0), 0);
        DUE.is("9 by nine tenths is 8", x.shares(9, 8, 0), 9);
        DUE.is("9 by ten", x.shares(9, 9, 0), 10);
        DUE.is("1 by ten alone", x.shares(1, 1, 0), 10);
        DUE.is("10 by one", x.shares(10, 1, 0), 1);
    }

    private static void takesOrLeaves() {
        DUE.says("he takes coins, if that is less than w (0 .. 99), he leaves, if it is less than v (0 .. 99): the least tenths by which he does neither; NONE.");
        HatRound x = new HatRound();
        DUE.is("as much as w is not less", x.shares(50, 20, 0), 4);
        DUE.is("as much as v is not less", x.shares(50, 0, 20), 4);
        DUE.is("one more for w", x.shares(50, 21, 0), 5);
        DUE.is("one more for v", x.shares(50, 0, 21), 5);
        DUE.is("the greater of both", x.shares(50, 20, 21), 5);
        DUE.is("the greater of both", x.shares(50, 21, 20), 5);
        DUE.is("all of it for w", x.shares(50, 50, 0), 10);
        DUE.is("all of it for v", x.shares(50, 0, 50), 10);
        DUE.is("more than all for w", x.shares(50, 51, 0), HatRound.NONE);
        DUE.is("more than all for v", x.shares(50, 0, 51), HatRound.NONE);
        DUE.is("nothing is brought, w", x.shares(0, 1, 0), HatRound.NONE);
        DUE.is("nothing is brought, v", x.shares(0, 0, 1), HatRound.NONE);
        DUE.is("the most of all", x.shares(99, 99, 99), 10);
        DUE.is("the most wanted of one less", x.shares(98, 99, 99), HatRound.NONE);
    }

    private static void shares() {
        DUE.says("`int shares(int t, int w, int v)`: SHARES; NONE. BAD: t, w, v.");
        HatRound x = new HatRound();
        DUE.within("shares(a, 0, 0)", a -> x.shares(a, 0, 0), 0, 99, HatRound.BAD);
        DUE.within("shares(0, a, 0)", a -> x.shares(0, a, 0), 0, 99, HatRound.BAD);
        DUE.within("shares(0, 0, a)", a -> x.shares(0, 0, a), 0, 99, HatRound.BAD);
    }
}
