/** The edges of promises 1 to 8, sentence by sentence: the text, its fault, the square, what is told of it. */
public final class SquareEdgesTest {
    private static final Due DUE = new Due("SquareEdgesTest");
    private static final String SIX = "P000000".repeat(6);
    private static final String FOUR = "T010".repeat(4);

    public static void main(String[] args) {
        peopleFromNone();
        sixPeople();
        setsAreBits();
        fourRows();
        fourTunes();
        textOf64();
        partsNoneOrMore();
        everyByteOfAPerson();
        everyByteOfATune();
        everyByteAheadOfAPart();
        firstFaultWhateverCameBehind();
        textNotAtItsEnd();
        nobodyAtFirst();
        madeAnew();
        whoNeedsNoneStands();
        whoLeftComesNoMore();
        newObject();
        writeTakesBytes();
        wipeOfEmptyAndFull();
        faultOfNone();
        squareCounts();
        squareIsLate();
        squareKeepsTextSeenAndSeed();
        about();
        person();
        personOfNoPatience();
        tune();
        DUE.end();
    }

    private static int faultOf(String text) {
        HatRound x = new HatRound();
        Due.write(x, text);
        return x.fault();
    }

    private static int squareOf(String text) {
        HatRound x = new HatRound();
        Due.write(x, text);
        return x.square();
    }

    private static void peopleFromNone() {
        DUE.says("PEOPLE are 0, 1, ..");
        HatRound x = Due.square("HP110000P220000T010P330000");
        DUE.people("each by its number, tunes set aside", x, 1, 1, 2, 3);
        DUE.is("none ahead of the first", x.person(-1, 1), HatRound.UNKNOWN);
        DUE.is("none behind the last", x.person(3, 1), HatRound.UNKNOWN);
    }

    private static void sixPeople() {
        DUE.says("(6 at most), sets of them bits");
        DUE.is("six", squareOf("H" + SIX), 60);
        DUE.is("fault of six", faultOf("H" + SIX), HatRound.NONE);
        DUE.is("fault of seven, at the seventh's letter", faultOf("H" + SIX + "P000000"), 43);
        DUE.is("seven", squareOf("H" + SIX + "P000000"), HatRound.LATE);
        DUE.is("a tune behind six", squareOf("H" + SIX + "T010"), 61);
        DUE.is("the seventh behind tunes", faultOf("H" + FOUR + SIX + "P"), 59);
        DUE.is("the seventh behind one tune", faultOf("HT010" + SIX + "P"), 47);
    }

    private static void setsAreBits() {
        DUE.says("sets of them bits");
        for (int one = 0; one < 6; one++) {
            String ahead = "P099005".repeat(one);
            HatRound x = Due.square("H" + ahead + "P099000" + "P099005".repeat(5 - one));
            DUE.is("only " + one + " stands", x.about(5), 1 << one);
            DUE.is("all but " + one + " wait", x.about(6), 63 - (1 << one));
        }
    }

    private static void fourRows() {
        DUE.says("ROWS 0 (front) .. 3 (back)");
        for (int row = 0; row <= 3; row++) {
            HatRound x = Due.square("HP" + row + "99000");
            DUE.is("row", x.person(0, 0), row);
            DUE.is("the hat gets there from the front", x.would(0, 0), 1);
            DUE.is("the hat gets there from the back", x.would(1, 0), 1);
        }
        DUE.is("no row 4", faultOf("HP499000"), 2);
        DUE.is("from the front: 1, 2, 3, 4", Due.square("HP029000P149000P269000P389000").would(0, 0), 10);
        DUE.is("from the back: 1, 2, 2, 1", Due.square("HP029000P149000P269000P389000").would(1, 0), 6);
        DUE.is("from the back: 1, 2, 3, 4", Due.square("HP089000P169000P249000P329000").would(1, 0), 10);
    }

    private static void fourTunes() {
        DUE.says("TUNES 0, 1, .. (4 at most)");
        DUE.is("four", squareOf("H" + FOUR), 4);
        DUE.is("fault of four", faultOf("H" + FOUR), HatRound.NONE);
        DUE.is("fault of five, at the fifth's letter", faultOf("H" + FOUR + "T010"), 17);
        DUE.is("five", squareOf("H" + FOUR + "T010"), HatRound.LATE);
        DUE.is("a person behind four", squareOf("H" + FOUR + "P000000"), 14);
        DUE.is("the fifth behind people", faultOf("H" + SIX + FOUR + "T"), 59);
        DUE.is("the fifth behind one person", faultOf("HP000000" + FOUR + "T"), 24);
    }

    private static void textOf64() {
        DUE.says("THE TEXT is bytes (64 at most).");
        HatRound x = new HatRound();
        for (int length = 1; length <= 64; length++) {
            DUE.is("write", x.write(length), length);
        }
        DUE.is("the 65th", x.write(65), HatRound.FULL);
        DUE.is("the 65th, again", x.write('H'), HatRound.FULL);
        DUE.is("how long it is", x.about(9), 64);
        DUE.is("how long it was", x.wipe(), 64);
        DUE.is("the first behind a wipe", x.write('H'), 1);
        DUE.is("what is behind it is gone", x.fault(), HatRound.NONE);
    }

    private static void partsNoneOrMore() {
        DUE.says("H, then PARTS, none or more, numbered as they are told");
        DUE.is("none", squareOf("H"), 0);
        DUE.is("not even H", squareOf(""), HatRound.LATE);
        DUE.is("parts, but no H", faultOf("P000000"), 0);
        DUE.is("H once more", faultOf("HT010H"), 5);
        HatRound x = Due.square("HT011P100000T022P200000P300000T033");
        for (int number = 0; number < 3; number++) {
            DUE.is("row of " + number, x.person(number, 0), number + 1);
            DUE.is("kind of " + number, x.tune(number, 0), 0);
            DUE.is("minutes of " + number, x.tune(number, 1), number + 1);
            DUE.is("good of " + number, x.tune(number, 2), number + 1);
        }
    }

    /** Puts each of the 256 bytes at each place of a part whose other figures are good ones. */
    private static void everyByte(String part, String least, String most) {
        for (int place = 1; place < part.length(); place++) {
            for (int letter = 0; letter <= 255; letter++) {
                boolean taken = letter >= least.charAt(place) && letter <= most.charAt(place);
                String told = "H" + part.substring(0, place) + (char) letter;
                boolean atEnd = place == part.length() - 1;
                int open = atEnd ? HatRound.NONE : told.length();
                String call = "byte " + letter + " at place " + place + " of " + part;
                DUE.is(call, faultOf(told), taken ? open : place + 1);
                DUE.is(call + ", with more behind", faultOf(told + part.substring(place + 1)), taken ? HatRound.NONE : place + 1);
            }
        }
    }

    private static void everyByteOfAPerson() {
        DUE.says("Prmgskn a PERSON of ROW r (0 .. 3), MOOD m (0 .. 9), PATIENCE g (0 .. 9), SHY s (0 .. 3), TASTE k (0 .. 2), that NEEDS n (0 .. 5)");
        everyByte("P111111", "P000000", "P399325");
        HatRound least = Due.square("HP000000");
        HatRound most = Due.square("HP399325");
        int[] mostOf = {3, 9, 9, 3, 2, 5};
        for (int what = 0; what < 6; what++) {
            DUE.is("least, person(0, " + what + ")", least.person(0, what), 0);
            DUE.is("most, person(0, " + what + ")", most.person(0, what), mostOf[what]);
        }
    }

    private static void everyByteOfATune() {
        DUE.says("Tklv a TUNE of KIND k (0 .. 2) that is l (1 .. 9) MINUTES long, GOOD v (0 .. 9)");
        everyByte("T111", "T010", "T299");
        HatRound x = Due.square("HT010T299");
        int[][] want = {{0, 1, 0}, {2, 9, 9}};
        for (int what = 0; what < 3; what++) {
            DUE.is("least, tune(0, " + what + ")", x.tune(0, what), want[0][what]);
            DUE.is("most, tune(1, " + what + ")", x.tune(1, what), want[1][what]);
        }
    }

    private static void everyByteAheadOfAPart() {
        DUE.says("A SQUARE is a TEXT: H, then PARTS");
        for (int letter = 0; letter <= 255; letter++) {
            char c = (char) letter;
            boolean begins = c == 'P' || c == 'T';
            DUE.is("first byte " + letter, faultOf("" + c), c == 'H' ? HatRound.NONE : 0);
            DUE.is("byte behind H " + letter, faultOf("H" + c), begins ? 2 : 1);
            DUE.is("byte behind a person " + letter, faultOf("HP000000" + c), begins ? 9 : 8);
            DUE.is("byte behind a tune " + letter, faultOf("HT010" + c), begins ? 6 : 5);
        }
    }

    private static void firstFaultWhateverCameBehind() {
        DUE.says("FAULT: the place (from 0) of the first byte by which THE TEXT can be no SQUARE, whatever came behind it (its length set aside)");
        DUE.is("the first byte of all", faultOf("XP4"), 0);
        DUE.is("two faults", faultOf("HP04:000"), 4);
        DUE.is("two faults, the first in a tune", faultOf("HT300P400000"), 2);
        DUE.is("a letter where a figure is due", faultOf("HP0000T010"), 6);
        DUE.is("a figure where a letter is due", faultOf("HT01000"), 5);
        String all = "H" + SIX + FOUR;
        DUE.is("the longest square", faultOf(all), HatRound.NONE);
        DUE.is("the last place at which a fault can be", faultOf(all + "P"), 59);
        DUE.is("that, in a full text", faultOf(all + "T0100"), 59);
        DUE.is("a full text with its fault at 0", faultOf("T".repeat(64)), 0);
        DUE.is("a full text with its fault at 1", faultOf("H".repeat(64)), 1);
    }

    private static void textNotAtItsEnd() {
        DUE.says("its length, if it is only not at its end; NONE: none.");
        String text = "HP399325T299P000000T010";
        for (int length = 0; length <= text.length(); length++) {
            boolean atEnd = length == 1 || length == 8 || length == 12 || length == 19 || length == 23;
            DUE.is("the first " + length + " bytes", faultOf(text.substring(0, length)), atEnd ? HatRound.NONE : length);
            DUE.is("square of the first " + length + " bytes", squareOf(text.substring(0, length)) == HatRound.LATE ? 1 : 0, atEnd ? 0 : 1);
        }
        String all = "H" + SIX + FOUR;
        DUE.is("the longest that is not at its end", faultOf(all.substring(0, 58)), 58);
    }

    private static void nobodyAtFirst() {
        DUE.says("At first there is nobody, no TUNE.");
        HatRound x = new HatRound();
        DUE.about("at first", x, 0, 0, 0, 0, 0, 0, 0, 0, 0, 0);
        DUE.is("person(0, 0)", x.person(0, 0), HatRound.UNKNOWN);
        DUE.is("tune(0, 0)", x.tune(0, 0), HatRound.UNKNOWN);
        DUE.is("play(0)", x.play(0), HatRound.UNKNOWN);
        DUE.is("soon(0)", x.soon(0), HatRound.UNKNOWN);
        DUE.is("see(0, true)", x.see(0, true), HatRound.UNKNOWN);
        DUE.is("grows(1, 0)", x.grows(1, 0), HatRound.BAD);
        DUE.is("keep(0)", x.keep(0), 0);
    }

    private static void madeAnew() {
        DUE.says("When THE SQUARE is made anew, THE MINUTE, THE HAT, BAIT are 0, no TUNE was PLAYED");
        HatRound x = Due.playedTo("HP099000P199300P099002T019T028", 0, 1, 1);
        x.round(0);
        x.bait(7);
        DUE.about("ahead", x, 3, 2, 6, 3, 7, 5, 0);
        DUE.is("made anew", x.square(), 32);
        DUE.about("anew", x, 3, 2, 0, 0, 0, 3, 4);
        DUE.people("moods anew", x, 1, 9, 9, 9);
        DUE.people("patience anew", x, 2, 9, 9, 9);
        DUE.is("0 was not played", x.tune(0, 3), 0);
        DUE.is("1 was not played", x.tune(1, 3), 0);
        x.play(0);
        Due.write(x, "H");
        DUE.is("made of nothing", x.square(), 0);
        DUE.about("nothing", x, 0, 0, 0, 0, 0, 0, 0);
        Due.write(x, "HP055000P055000P055000T010T010");
        DUE.is("made of more", x.square(), 32);
        DUE.people("nothing of the one ahead", x, 1, 5, 5, 5);
        DUE.is("0 was not played here", x.tune(0, 3), 0);
    }

    private static void whoNeedsNoneStands() {
        DUE.says("those that NEED none (0) STAND in THE RING; others wait");
        for (int needs = 0; needs <= 5; needs++) {
            HatRound x = Due.square("HP09900" + needs);
            DUE.is("needs " + needs + ", stands", x.about(5), needs == 0 ? 1 : 0);
            DUE.is("needs " + needs + ", waits", x.about(6), needs == 0 ? 0 : 1);
        }
        HatRound y = Due.square("HP099000P099000P099001P099002");
        DUE.is("that its need is met ahead of a tune brings nobody", y.about(5), 3);
        DUE.is("they wait", y.about(6), 12);
        y.round(0);
        y.bait(9);
        DUE.is("nor do the hat and a bait", y.about(6), 12);
    }

    private static void whoLeftComesNoMore() {
        DUE.says("who left comes no more.");
        HatRound x = Due.playedTo("HP000000P099000P090001T010", 0, 0);
        DUE.is("0 lost its patience at once, 2 behind it", x.about(5), 2);
        DUE.is("nobody waits", x.about(6), 0);
        DUE.is("none comes by a tune more", x.play(0), 1);
        HatRound y = Due.square("HP099000P199300T010");
        y.round(0);
        DUE.is("who slipped off does not wait", y.about(6), 0);
        DUE.is("nor comes", y.play(0), 1);
        DUE.is("nor is awaited", y.never(), 0);
        DUE.is("but stands when all is made anew", y.square() == 21 ? y.about(5) : -1, 3);
    }

    private static void newObject() {
        DUE.says("`HatRound()`: Nobody, no TUNES.");
        HatRound x = new HatRound();
        DUE.is("people", x.about(0), 0);
        DUE.is("tunes", x.about(1), 0);
        DUE.is("another object is not touched", Due.square("HP099000T010").about(0) + x.about(0), 1);
    }

    private static void writeTakesBytes() {
        DUE.says("`int write(int letter)`: A byte (0 .. 255) comes behind THE TEXT: how long it is. BAD; FULL: there are 64.");
        DUE.within("write", v -> new HatRound().write(v), 0, 255, HatRound.BAD);
        HatRound x = new HatRound();
        DUE.is("a byte that is taken for another by its lower bits", x.write('H' + 256), HatRound.BAD);
        DUE.is("or by its sign", x.write('H' - 256), HatRound.BAD);
        DUE.is("behind refusals", x.write('H'), 1);
        DUE.is("it is H", x.fault(), HatRound.NONE);
        for (int length = 2; length <= 64; length++) {
            DUE.is("how long it is", x.write(255), length);
        }
        DUE.is("FULL", x.write(255), HatRound.FULL);
        DUE.is("BAD, of several", x.write(256), HatRound.BAD);
        DUE.is("BAD, of several", x.write(-1), HatRound.BAD);
    }

    private static void wipeOfEmptyAndFull() {
        DUE.says("`int wipe()`: THE TEXT is empty: how long it was.");
        HatRound x = new HatRound();
        DUE.is("of an empty one", x.wipe(), 0);
        x.write('H');
        DUE.is("of one byte", x.wipe(), 1);
        DUE.is("fault of an empty one", x.fault(), 0);
        DUE.is("square of an empty one", x.square(), HatRound.LATE);
        for (int i = 0; i < 64; i++) {
            x.write('H');
        }
        DUE.is("of a full one", x.wipe(), 64);
        DUE.is("of an empty one again", x.wipe(), 0);
        DUE.is("how long it is", x.about(9), 0);
    }

    private static void faultOfNone() {
        DUE.says("`int fault()`: FAULT; NONE.");
        HatRound x = new HatRound();
        DUE.is("empty", x.fault(), 0);
        x.write('H');
        DUE.is("none", x.fault(), HatRound.NONE);
        DUE.is("none when asked again", x.fault(), HatRound.NONE);
        x.write('H');
        DUE.is("one", x.fault(), 1);
        DUE.is("the text stays", x.about(9), 2);
    }

    private static void squareCounts() {
        DUE.says("10 times PEOPLE, and TUNES.");
        for (int people = 0; people <= 6; people++) {
            for (int tunes = 0; tunes <= 4; tunes++) {
                String text = "H" + "P000000".repeat(people) + "T010".repeat(tunes);
                DUE.is("square of " + text, squareOf(text), 10 * people + tunes);
            }
        }
    }

    private static void squareIsLate() {
        DUE.says("LATE: a FAULT.");
        DUE.is("of nothing", squareOf(""), HatRound.LATE);
        DUE.is("not at its end", squareOf("HP00000"), HatRound.LATE);
        DUE.is("one byte too many", squareOf("HP0000000"), HatRound.LATE);
        HatRound x = Due.square("HP099000");
        x.write('P');
        DUE.is("behind a good one", x.square(), HatRound.LATE);
        DUE.is("the good one stays", x.about(0), 1);
    }

    private static void squareKeepsTextSeenAndSeed() {
        DUE.says("`int square()`: THE TEXT is THE SQUARE (THE TEXT itself stays; no ACTS; what was kept is gone; SEEN, THE SEED stay)");
        HatRound x = Due.square("HP099000T010");
        for (int act = 0; act < 13; act++) {
            x.play(0);
        }
        for (int seen = 0; seen < 6; seen++) {
            x.see(0, true);
        }
        x.keep(0);
        x.keep(1);
        x.seed(Long.MIN_VALUE);
        DUE.is("from the same text", x.square(), 11);
        DUE.about("behind it", x, 1, 1, 0, 0, 0, 1, 0, 0, 6, 12);
        DUE.is("no acts", x.undo(), HatRound.LATE);
        DUE.is("0 is gone", x.again(0), HatRound.LATE);
        DUE.is("1 is gone", x.again(1), HatRound.LATE);
        DUE.is("seen is full still", x.see(0, true), HatRound.FULL);
        DUE.is("what is seen stays", x.gave(0, 0), 0);
        DUE.is("the seed stays", x.seed(0), Long.MIN_VALUE);
    }

    private static void about() {
        DUE.says("who STANDS (5: bits), who waits (6: bits), ACTS (7), SEEN (8), bytes of THE TEXT (9). BAD.");
        HatRound empty = new HatRound();
        HatRound x = Due.square("H" + SIX + FOUR);
        DUE.within("about, empty", empty::about, 0, 9, HatRound.BAD);
        DUE.within("about", x::about, 0, 9, HatRound.BAD);
        DUE.says("`int about(int what)`: PEOPLE (what = 0), TUNES (1), THE MINUTE (2), THE HAT (3), BAIT (4)");
        DUE.about("the most", x, 6, 4, 0, 0, 0, 63, 0, 0, 0, 59);
    }

    private static void person() {
        DUE.says("`int person(int person, int what)`: Of a PERSON ROW (what = 0), MOOD (1)");
        for (int people = 1; people <= 6; people++) {
            HatRound x = Due.square("H" + "P399325".repeat(people));
            DUE.within("person(v, 0) of " + people, v -> x.person(v, 0), 0, people - 1, HatRound.UNKNOWN);
        }
        DUE.says("SHY (3), TASTE (4), NEEDS (5), its GIFT (6). UNKNOWN; BAD.");
        HatRound x = Due.square("HP399325P000000");
        DUE.within("person(0, v)", v -> x.person(0, v), 0, 6, HatRound.BAD);
        DUE.within("person(1, v)", v -> x.person(1, v), 0, 6, HatRound.BAD);
        DUE.is("UNKNOWN, of several", x.person(2, 7), HatRound.UNKNOWN);
        DUE.is("UNKNOWN, of several", x.person(-1, -1), HatRound.UNKNOWN);
        DUE.is("nobody", new HatRound().person(0, 7), HatRound.UNKNOWN);
    }

    private static void personOfNoPatience() {
        DUE.says("PATIENCE (2; less than none is told as NONE)");
        HatRound x = Due.playedTo("HP001000P000000P008000P002001T010T190", 0);
        DUE.people("behind one minute", x, 2, 0, HatRound.NONE, 7, 2);
        x.play(1);
        DUE.people("behind ten", x, 2, HatRound.NONE, HatRound.NONE, HatRound.NONE, HatRound.NONE);
        DUE.is("nobody stands", x.about(5), 0);
        x.undo();
        DUE.people("nine undone", x, 2, 0, HatRound.NONE, 7, 2);
    }

    private static void tune() {
        DUE.says("`int tune(int tune, int what)`: Of a TUNE KIND (what = 0), MINUTES (1), GOOD (2), how often it was PLAYED (3). UNKNOWN; BAD.");
        for (int tunes = 1; tunes <= 4; tunes++) {
            HatRound x = Due.square("H" + "T299".repeat(tunes));
            DUE.within("tune(v, 3) of " + tunes, v -> x.tune(v, 3), 0, tunes - 1, HatRound.UNKNOWN);
            DUE.within("tune(0, v) of " + tunes, v -> x.tune(0, v), 0, 3, HatRound.BAD);
            DUE.is("UNKNOWN, of several", x.tune(tunes, 4), HatRound.UNKNOWN);
            DUE.is("UNKNOWN, of several", x.tune(-1, -1), HatRound.UNKNOWN);
        }
        HatRound x = Due.square("HT299");
        for (int times = 0; times <= 30; times++) {
            DUE.is("how often, beyond what is undone", x.tune(0, 3), times);
            x.play(0);
        }
        DUE.is("the minute has no end that is told", x.about(2), 31 * 9);
    }
}
