/** Promises 20 and 21: two players that play louder, one who collects. */
public final class RivalsTest {
    private static final Due DUE = new Due("RivalsTest");

    public static void main(String[] args) {
        louder();
        louderAgainstPayoffs();
        louderRefuses();
        shares();
        sharesRefuses();
        DUE.end();
    }

    private static void louder() {
        HatRound x = new HatRound();
        int[][] byHand = {{1, 4, 0}, {2, 1, 11}, {3, 1, 11}, {4, 1, 22}, {6, 0, HatRound.NONE}, {20, 0, HatRound.NONE}};
        for (int[] row : byHand) {
            DUE.is("louder(" + row[0] + ", 0)", x.louder(row[0], 0), row[1]);
            DUE.is("louder(" + row[0] + ", 1)", x.louder(row[0], 1), row[2]);
        }
    }

    /** The same by a table of what the one and the other have, for every k. */
    private static void louderAgainstPayoffs() {
        HatRound x = new HatRound();
        for (int k = 1; k <= 20; k++) {
            int[][] has = new int[6][6];
            for (int own = 0; own < 6; own++) {
                for (int rival = 0; rival < 6; rival++) {
                    has[own][rival] = k * (1 + Integer.signum(own - rival)) - own * own;
                }
            }
            int count = 0;
            int first = HatRound.NONE;
            for (int pair = 55; pair >= 0; pair--) {
                int one = pair / 10;
                int other = pair % 10;
                boolean rests = other < 6;
                for (int d = 0; d < 6 && rests; d++) {
                    rests = has[d][other] <= has[one][other] && has[d][one] <= has[other][one];
                }
                count += rests ? 1 : 0;
                first = rests ? pair : first;
            }
            DUE.is("louder(" + k + ", 0)", x.louder(k, 0), count);
            DUE.is("louder(" + k + ", 1)", x.louder(k, 1), first);
        }
    }

    private static void louderRefuses() {
        HatRound x = new HatRound();
        DUE.is("louder(0, 0)", x.louder(0, 0), HatRound.BAD);
        DUE.is("louder(-1, 0)", x.louder(-1, 0), HatRound.BAD);
        DUE.is("louder(21, 0)", x.louder(21, 0), HatRound.BAD);
        DUE.is("louder(1, -1)", x.louder(1, -1), HatRound.BAD);
        DUE.is("louder(1, 2)", x.louder(1, 2), HatRound.BAD);
    }

    private static void shares() {
        HatRound x = new HatRound();
        int[][] byHand = {
            {50, 12, 20, 4}, {50, 20, 12, 4}, {50, 0, 0, 0}, {0, 0, 0, 0}, {0, 1, 0, HatRound.NONE}, {0, 0, 1, HatRound.NONE},
            {99, 99, 0, 10}, {99, 0, 99, 10}, {98, 99, 0, HatRound.NONE}, {98, 0, 99, HatRound.NONE},
            {9, 1, 0, 2}, {10, 1, 1, 1}, {99, 90, 0, 10}, {99, 89, 89, 9}, {5, 0, 1, 2}, {1, 1, 1, 10}, {99, 0, 9, 1}, {99, 10, 9, 2}
        };
        for (int[] row : byHand) {
            DUE.is("shares(" + row[0] + ", " + row[1] + ", " + row[2] + ")", x.shares(row[0], row[1], row[2]), row[3]);
        }
    }

    private static void sharesRefuses() {
        HatRound x = new HatRound();
        int[] wrong = {-1, 100, Integer.MIN_VALUE, Integer.MAX_VALUE};
        for (int bad : wrong) {
            DUE.is("t " + bad, x.shares(bad, 1, 1), HatRound.BAD);
            DUE.is("w " + bad, x.shares(1, bad, 1), HatRound.BAD);
            DUE.is("v " + bad, x.shares(1, 1, bad), HatRound.BAD);
        }
    }
}
