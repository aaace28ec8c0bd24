import java.util.ArrayList;
import java.util.List;
import java.util.function.Supplier;

/** That a call that is refused, or only asks, changes nothing: the object tells all that its twin tells, on which it was not called. */
public final class UnchangedTest {
    private static final Due DUE = new Due("UnchangedTest");

    interface Call {
        long on(HatRound x);
    }

    record Refused(String name, Call call, long due) { }

    public static void main(String[] args) {
        constants();
        firstOfSeveral();
        refused("an object at first", HatRound::new, refusedAtFirst());
        refused("an object in the midst", UnchangedTest::midst, refusedInTheMidst());
        refused("a full object", UnchangedTest::full, refusedWhenFull());
        onlyAsked("an object at first", HatRound::new);
        onlyAsked("an object in the midst", UnchangedTest::midst);
        onlyAsked("a full object", UnchangedTest::full);
        DUE.end();
    }

    private static void constants() {
        DUE.says("REFUSALS: UNKNOWN -1 (there is no such PERSON, TUNE, SLOT), BAD -2, LATE -3, FULL -4.");
        DUE.is("UNKNOWN", HatRound.UNKNOWN, -1);
        DUE.is("BAD", HatRound.BAD, -2);
        DUE.is("LATE", HatRound.LATE, -3);
        DUE.is("FULL", HatRound.FULL, -4);
        DUE.says("NONE is -9.");
        DUE.is("NONE", HatRound.NONE, -9);
    }

    private static void firstOfSeveral() {
        DUE.says("Of several what is told first.");
        HatRound x = full();
        DUE.is("write: BAD, FULL", x.write(256), HatRound.BAD);
        DUE.is("write: FULL alone", x.write(255), HatRound.FULL);
        DUE.is("person: UNKNOWN, BAD", x.person(3, 7), HatRound.UNKNOWN);
        DUE.is("person: BAD alone", x.person(2, 7), HatRound.BAD);
        DUE.is("tune: UNKNOWN, BAD", x.tune(2, 4), HatRound.UNKNOWN);
        DUE.is("tune: BAD alone", x.tune(1, 4), HatRound.BAD);
        DUE.is("see: UNKNOWN, FULL", x.see(3, true), HatRound.UNKNOWN);
        DUE.is("see: FULL alone", x.see(2, true), HatRound.FULL);
        DUE.is("again: UNKNOWN, LATE", new HatRound().again(2), HatRound.UNKNOWN);
        DUE.is("again: LATE alone", new HatRound().again(1), HatRound.LATE);
        HatRound ten = Due.playedTo("HP099000T019", 0);
        ten.bait(9);
        ten.round(0);
        DUE.is("the bait is 10", ten.about(4), 10);
        DUE.is("bait: BAD, LATE", ten.bait(10), HatRound.BAD);
    }

    /** Three people of whom one left and one waits, two tunes, acts, a slot kept, some seen, another square told but not made. */
    private static HatRound midst() {
        HatRound x = Due.square("HP099000P190000P099005T119T017");
        x.bait(4);
        x.play(0);
        x.keep(0);
        x.round(1);
        x.play(1);
        x.see(0, true);
        x.see(1, false);
        x.seed(-5);
        Due.write(x, "HP123110P345220T168");
        return x;
    }

    /** As many acts, slots, seen and bytes as there can be. */
    private static HatRound full() {
        HatRound x = midst();
        x.keep(1);
        for (int act = 0; act < 10; act++) {
            x.bait(act);
        }
        for (int seen = 0; seen < 4; seen++) {
            x.see(2, false);
        }
        for (int length = x.about(9); length < 64; length++) {
            x.write('H');
        }
        return x;
    }

    private static void tellNow(HatRound x, List<Long> told) {
        for (int what = 0; what <= 9; what++) {
            told.add((long) x.about(what));
        }
        for (int person = 0; person < 3; person++) {
            told.add((long) x.person(person, 1));
            told.add((long) x.person(person, 2));
        }
        told.add((long) x.tune(0, 3));
        told.add((long) x.tune(1, 3));
    }

    /** All that an object holds, by calls that use it up. */
    private static List<Long> tellAll(HatRound x) {
        List<Long> told = new ArrayList<>();
        tellNow(x, told);
        while (told.add((long) x.undo()) && told.get(told.size() - 1) >= 0) {
            tellNow(x, told);
        }
        for (int slot = 0; slot < 2; slot++) {
            told.add((long) x.again(slot));
            tellNow(x, told);
        }
        told.add((long) x.fault());
        told.add((long) x.square());
        tellNow(x, told);
        told.add(x.seed(0));
        Due.write(x, "HP099000P099000P099000");
        told.add((long) x.square());
        for (int t = 0; t <= 3; t++) {
            told.add((long) x.gave(t, 0));
            told.add((long) x.gave(t, 1));
        }
        return told;
    }

    private static void refused(String state, Supplier<HatRound> made, List<Refused> calls) {
        DUE.says("What is refused changes nothing.");
        List<Long> due = tellAll(made.get());
        for (Refused each : calls) {
            HatRound x = made.get();
            DUE.is(state + ": " + each.name, each.call.on(x), each.due);
            DUE.isTrue(state + ": " + each.name + " changes nothing", tellAll(x).equals(due));
        }
    }

    private static List<Refused> refusedAlways() {
        List<Refused> calls = new ArrayList<>();
        int[] noByte = {-1, 256, Integer.MIN_VALUE, Integer.MAX_VALUE};
        for (int v : noByte) {
            calls.add(new Refused("write(" + v + ")", x -> x.write(v), HatRound.BAD));
        }
        int[] beside = {-1, 10, Integer.MIN_VALUE, Integer.MAX_VALUE};
        for (int v : beside) {
            calls.add(new Refused("about(" + v + ")", x -> x.about(v), HatRound.BAD));
            calls.add(new Refused("person(" + v + ", 0)", x -> x.person(v, 0), HatRound.UNKNOWN));
            calls.add(new Refused("person(" + v + ", 7)", x -> x.person(v, 7), HatRound.UNKNOWN));
            calls.add(new Refused("tune(" + v + ", 0)", x -> x.tune(v, 0), HatRound.UNKNOWN));
            calls.add(new Refused("tune(" + v + ", 4)", x -> x.tune(v, 4), HatRound.UNKNOWN));
            calls.add(new Refused("play(" + v + ")", x -> x.play(v), HatRound.UNKNOWN));
            calls.add(new Refused("bait(" + v + ")", x -> x.bait(v), HatRound.BAD));
            calls.add(new Refused("soon(" + v + ")", x -> x.soon(v), HatRound.UNKNOWN));
            calls.add(new Refused("see(" + v + ", true)", x -> x.see(v, true), HatRound.UNKNOWN));
            calls.add(new Refused("see(" + v + ", false)", x -> x.see(v, false), HatRound.UNKNOWN));
        }
        addSidesAndSlots(calls);
        addRows(calls);
        addCoins(calls);
        return calls;
    }

    private static void addSidesAndSlots(List<Refused> calls) {
        int[] beside = {-1, 2, Integer.MIN_VALUE, Integer.MAX_VALUE};
        for (int v : beside) {
            calls.add(new Refused("round(" + v + ")", x -> x.round(v), HatRound.BAD));
            calls.add(new Refused("would(" + v + ", 0)", x -> x.would(v, 0), HatRound.BAD));
            calls.add(new Refused("would(0, " + v + ")", x -> x.would(0, v), HatRound.BAD));
            calls.add(new Refused("bestBait(" + v + ")", x -> x.bestBait(v), HatRound.BAD));
            calls.add(new Refused("louder(1, " + v + ")", x -> x.louder(1, v), HatRound.BAD));
            calls.add(new Refused("gave(0, " + v + ")", x -> x.gave(0, v), HatRound.BAD));
            calls.add(new Refused("keep(" + v + ")", x -> x.keep(v), HatRound.UNKNOWN));
            calls.add(new Refused("again(" + v + ")", x -> x.again(v), HatRound.UNKNOWN));
        }
    }

    private static void addRows(List<Refused> calls) {
        calls.add(new Refused("plan(-1, 0)", x -> x.plan(-1, 0), HatRound.BAD));
        calls.add(new Refused("plan(4, 0)", x -> x.plan(4, 0), HatRound.BAD));
        calls.add(new Refused("plan(0, -1)", x -> x.plan(0, -1), HatRound.BAD));
        calls.add(new Refused("plan(1, 3)", x -> x.plan(1, 3), HatRound.BAD));
        calls.add(new Refused("grows(0, 0)", x -> x.grows(0, 0), HatRound.BAD));
        calls.add(new Refused("grows(7, 0)", x -> x.grows(7, 0), HatRound.BAD));
        calls.add(new Refused("grows(1, -1)", x -> x.grows(1, -1), HatRound.BAD));
        calls.add(new Refused("grows(1, 10)", x -> x.grows(1, 10), HatRound.BAD));
        calls.add(new Refused("grows(2, 4)", x -> x.grows(2, 4), HatRound.BAD));
        calls.add(new Refused("judged(0, 0)", x -> x.judged(0, 0), HatRound.BAD));
        calls.add(new Refused("judged(9, 0)", x -> x.judged(9, 0), HatRound.BAD));
        calls.add(new Refused("judged(2, -1)", x -> x.judged(2, -1), HatRound.BAD));
        calls.add(new Refused("judged(2, 100)", x -> x.judged(2, 100), HatRound.BAD));
    }

    private static void addCoins(List<Refused> calls) {
        int[] beside = {-1, 100};
        for (int v : beside) {
            calls.add(new Refused("shares(" + v + ", 0, 0)", x -> x.shares(v, 0, 0), HatRound.BAD));
            calls.add(new Refused("shares(0, " + v + ", 0)", x -> x.shares(0, v, 0), HatRound.BAD));
            calls.add(new Refused("shares(0, 0, " + v + ")", x -> x.shares(0, 0, v), HatRound.BAD));
            calls.add(new Refused("gave(" + v + ", 0)", x -> x.gave(v, 0), HatRound.BAD));
            calls.add(new Refused("luck(0, " + v + ", true)", x -> x.luck(0, v, true), HatRound.BAD));
        }
        calls.add(new Refused("luck(-1, 0, false)", x -> x.luck(-1, 0, false), HatRound.BAD));
        calls.add(new Refused("luck(11, 0, false)", x -> x.luck(11, 0, false), HatRound.BAD));
        calls.add(new Refused("louder(0, 0)", x -> x.louder(0, 0), HatRound.BAD));
        calls.add(new Refused("louder(21, 0)", x -> x.louder(21, 0), HatRound.BAD));
        calls.add(new Refused("day(0)", x -> x.day(0), HatRound.BAD));
        calls.add(new Refused("day(21)", x -> x.day(21), HatRound.BAD));
    }

    private static List<Refused> refusedAtFirst() {
        List<Refused> calls = refusedAlways();
        calls.add(new Refused("square()", x -> x.square(), HatRound.LATE));
        calls.add(new Refused("undo()", x -> x.undo(), HatRound.LATE));
        calls.add(new Refused("bait(0)", x -> x.bait(0), HatRound.LATE));
        calls.add(new Refused("again(0)", x -> x.again(0), HatRound.LATE));
        calls.add(new Refused("again(1)", x -> x.again(1), HatRound.LATE));
        calls.add(new Refused("person(0, 0)", x -> x.person(0, 0), HatRound.UNKNOWN));
        calls.add(new Refused("tune(0, 0)", x -> x.tune(0, 0), HatRound.UNKNOWN));
        calls.add(new Refused("play(0)", x -> x.play(0), HatRound.UNKNOWN));
        calls.add(new Refused("soon(0)", x -> x.soon(0), HatRound.UNKNOWN));
        calls.add(new Refused("see(0, true)", x -> x.see(0, true), HatRound.UNKNOWN));
        calls.add(new Refused("grows(1, 0)", x -> x.grows(1, 0), HatRound.BAD));
        return calls;
    }

    private static List<Refused> refusedInTheMidst() {
        List<Refused> calls = refusedAlways();
        calls.add(new Refused("person(3, 0)", x -> x.person(3, 0), HatRound.UNKNOWN));
        calls.add(new Refused("person(0, -1)", x -> x.person(0, -1), HatRound.BAD));
        calls.add(new Refused("person(0, 7)", x -> x.person(0, 7), HatRound.BAD));
        calls.add(new Refused("tune(2, 0)", x -> x.tune(2, 0), HatRound.UNKNOWN));
        calls.add(new Refused("tune(0, -1)", x -> x.tune(0, -1), HatRound.BAD));
        calls.add(new Refused("tune(0, 4)", x -> x.tune(0, 4), HatRound.BAD));
        calls.add(new Refused("play(2)", x -> x.play(2), HatRound.UNKNOWN));
        calls.add(new Refused("soon(2)", x -> x.soon(2), HatRound.UNKNOWN));
        calls.add(new Refused("grows(3, 20)", x -> x.grows(3, 20), HatRound.BAD));
        calls.add(new Refused("see(3, true)", x -> x.see(3, true), HatRound.UNKNOWN));
        calls.add(new Refused("bait that is so", x -> x.bait(x.about(4)), HatRound.LATE));
        calls.add(new Refused("again(1)", x -> x.again(1), HatRound.LATE));
        return calls;
    }

    private static List<Refused> refusedWhenFull() {
        List<Refused> calls = refusedAlways();
        calls.add(new Refused("write(0)", x -> x.write(0), HatRound.FULL));
        calls.add(new Refused("write(255)", x -> x.write(255), HatRound.FULL));
        calls.add(new Refused("square()", x -> x.square(), HatRound.LATE));
        calls.add(new Refused("see(0, false)", x -> x.see(0, false), HatRound.FULL));
        calls.add(new Refused("see(2, true)", x -> x.see(2, true), HatRound.FULL));
        calls.add(new Refused("see(3, true)", x -> x.see(3, true), HatRound.UNKNOWN));
        calls.add(new Refused("bait(9)", x -> x.bait(9), HatRound.LATE));
        calls.add(new Refused("play(2)", x -> x.play(2), HatRound.UNKNOWN));
        return calls;
    }

    private static void onlyAsked(String state, Supplier<HatRound> made) {
        DUE.says("In what follows nothing is changed.");
        List<Long> due = tellAll(made.get());
        List<Call> calls = List.of(UnchangedTest::askOfPlans, UnchangedTest::askOfRows, UnchangedTest::askOfRivals, UnchangedTest::askOfChances, UnchangedTest::askOfNow);
        for (int i = 0; i < calls.size(); i++) {
            HatRound x = made.get();
            calls.get(i).on(x);
            DUE.isTrue(state + ": what only asks, " + i, tellAll(x).equals(due));
        }
        DUE.says("(Nothing changes but THE SEED.)");
        HatRound x = made.get();
        long seed = x.seed(12345);
        x.day(20);
        DUE.isTrue(state + ": a day changes the seed", x.seed(seed) != 12345);
        DUE.isTrue(state + ": and nothing else", tellAll(x).equals(due));
    }

    private static long askOfPlans(HatRound x) {
        long sum = x.never();
        for (int a = 0; a <= 1; a++) {
            sum += x.would(a, 0) + x.would(a, 1) + x.bestBait(a) + x.soon(a);
        }
        for (int n = 0; n <= 3; n++) {
            sum += x.plan(n, 0) + x.plan(n, 1) + x.plan(n, 2);
        }
        return sum;
    }

    private static long askOfRows(HatRound x) {
        long sum = 0;
        for (int n = 1; n <= 6; n++) {
            sum += x.grows(n, 0) + x.grows(n, 1) + x.judged(n, 0) + x.judged(n, 4) + x.judged(n, 5);
        }
        return sum + x.judged(8, 1014) + x.judged(8, 10150) + x.judged(8, 99999999);
    }

    private static long askOfRivals(HatRound x) {
        return x.louder(1, 0) + x.louder(20, 1) + x.shares(0, 0, 0) + x.shares(99, 99, 99) + x.shares(0, 0, 99);
    }

    private static long askOfChances(HatRound x) {
        return x.gave(0, 0) + x.gave(1, 1) + x.gave(99, 1) + x.luck(0, 0, true) + x.luck(10, 99, false) + x.luck(5, 1, true);
    }

    private static long askOfNow(HatRound x) {
        long sum = x.fault();
        for (int what = 0; what <= 9; what++) {
            sum += x.about(what) + x.person(0, what) + x.tune(0, what);
        }
        return sum;
    }
}
