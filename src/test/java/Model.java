import java.math.BigInteger;
import java.util.ArrayDeque;
import java.util.ArrayList;
import java.util.Deque;
import java.util.List;
import java.util.regex.Pattern;

/** The document said a second time, by other means: states are never changed, only made anew. */
final class Model {
    static final int UNKNOWN = -1, BAD = -2, LATE = -3, FULL = -4, NONE = -9;

    enum Place { STANDS, WAITS, LEFT }

    record Person(int row, int mood, int patience, int shy, int taste, int needs, Place place) {
        Person mood(int m) {
            return new Person(row, m, patience, shy, taste, needs, place);
        }

        Person patience(int g) {
            return new Person(row, mood, g, shy, taste, needs, place);
        }

        Person place(Place p) {
            return new Person(row, mood, patience, shy, taste, needs, p);
        }

        boolean stands() {
            return place == Place.STANDS;
        }

        int gift(int bait) {
            int half = mood / 2;
            return half > bait + 1 ? bait + 1 : half;
        }
    }

    record Tune(int kind, int minutes, int good, int played) { }

    record State(List<Person> people, List<Tune> tunes, int minute, int hat, int bait) {
        int ring() {
            return (int) people.stream().filter(Person::stands).count();
        }

        int bits(Place place) {
            int bits = 0;
            for (int i = 0; i < people.size(); i++) {
                bits += people.get(i).place == place ? 1 << i : 0;
            }
            return bits;
        }

        State bait(int v) {
            return new State(people, tunes, minute, hat, v);
        }

        State play(int number) {
            Tune tune = tunes.get(number);
            List<Person> next = new ArrayList<>();
            for (Person p : people) {
                next.add(p.stands() ? heard(p, tune) : p);
            }
            List<Tune> played = new ArrayList<>(tunes);
            played.set(number, new Tune(tune.kind, tune.minutes, tune.good, tune.played + 1));
            return new State(come(next), played, minute + tune.minutes, hat, bait);
        }

        private static Person heard(Person p, Tune tune) {
            int patience = p.patience - tune.minutes;
            if (patience < 0) {
                return p.patience(patience).place(Place.LEFT);
            }
            int more = tune.good > tune.played ? tune.good - tune.played : 0;
            if (tune.kind == p.taste) {
                more += 2;
            }
            return p.patience(patience).mood(p.mood + more > 20 ? 20 : p.mood + more);
        }

        static List<Person> come(List<Person> from) {
            List<Person> next = new ArrayList<>(from);
            for (int i = 0; i < next.size(); i++) {
                long standing = next.stream().filter(Person::stands).count();
                if (next.get(i).place == Place.WAITS && standing >= next.get(i).needs) {
                    next.set(i, next.get(i).place(Place.STANDS));
                }
            }
            return next;
        }

        State round(int side) {
            List<Integer> rows = side == 0 ? List.of(0, 1, 2, 3) : List.of(3, 2, 1, 0);
            List<Person> next = new ArrayList<>(people);
            int newHat = hat;
            int newBait = bait;
            for (int step = 0; step < 4; step++) {
                int row = rows.get(step);
                List<Integer> ahead = rows.subList(step + 1, 4);
                for (int i = 0; i < next.size(); i++) {
                    Person p = next.get(i);
                    if (p.stands() && p.row == row) {
                        int gift = p.gift(newBait);
                        newHat += gift;
                        if (gift > newBait) {
                            newBait = gift;
                        }
                        next.set(i, p.mood(0));
                    }
                }
                next.replaceAll(p -> p.stands() && ahead.contains(p.row) && Math.abs(p.row - row) <= p.shy ? p.place(Place.LEFT) : p);
            }
            return new State(next, tunes, minute + 1, newHat, newBait);
        }

        /** Null if it can not be. */
        State act(int figure) {
            if (figure < 4) {
                return figure < tunes.size() ? play(figure) : null;
            }
            return figure < 6 ? round(figure - 4) : null;
        }

        int brings(int side) {
            return round(side).hat - hat;
        }
    }

    record Seen(int person, boolean gives) { }

    private String text = "";
    private State now = new State(List.of(), List.of(), 0, 0, 0);
    private final Deque<State> acts = new ArrayDeque<>();
    private final State[] slots = new State[2];
    private final List<Seen> seen = new ArrayList<>();
    private long seed = 0;

    private void act(State next) {
        acts.addLast(now);
        if (acts.size() > 12) {
            acts.removeFirst();
        }
        now = next;
    }

    private static boolean in(int v, int from, int to) {
        return from <= v && v <= to;
    }

    int write(int letter) {
        if (!in(letter, 0, 255)) {
            return BAD;
        }
        if (text.length() == 64) {
            return FULL;
        }
        text += (char) letter;
        return text.length();
    }

    int wipe() {
        int was = text.length();
        text = "";
        return was;
    }

    private static final Pattern SQUARE = Pattern.compile("H(P[0-3][0-9][0-9][0-3][0-2][0-5]|T[0-2][1-9][0-9])*");

    private static long count(String s, char c) {
        return s.chars().filter(x -> x == c).count();
    }

    private static boolean isSquare(String s) {
        return SQUARE.matcher(s).matches() && count(s, 'P') <= 6 && count(s, 'T') <= 4;
    }

    /** A beginning of a square: it can be ended by figures alone. */
    private static boolean canBecome(String s) {
        String[] ends = {"", "1", "11", "111", "1111", "11111", "111111", "H"};
        for (String end : ends) {
            if (isSquare(s + end)) {
                return true;
            }
        }
        return false;
    }

    int fault() {
        for (int end = 1; end <= text.length(); end++) {
            if (!canBecome(text.substring(0, end))) {
                return end - 1;
            }
        }
        return isSquare(text) ? NONE : text.length();
    }

    int square() {
        if (!isSquare(text)) {
            return LATE;
        }
        List<Person> people = new ArrayList<>();
        List<Tune> tunes = new ArrayList<>();
        int at = 1;
        while (at < text.length()) {
            char[] c = text.substring(at).toCharArray();
            if (c[0] == 'P') {
                people.add(new Person(c[1] - '0', c[2] - '0', c[3] - '0', c[4] - '0', c[5] - '0', c[6] - '0', c[6] == '0' ? Place.STANDS : Place.WAITS));
                at += 7;
            } else {
                tunes.add(new Tune(c[1] - '0', c[2] - '0', c[3] - '0', 0));
                at += 4;
            }
        }
        now = new State(people, tunes, 0, 0, 0);
        acts.clear();
        slots[0] = null;
        slots[1] = null;
        return people.size() * 10 + tunes.size();
    }

    int about(int what) {
        if (!in(what, 0, 9)) {
            return BAD;
        }
        return new int[] {now.people.size(), now.tunes.size(), now.minute, now.hat, now.bait, now.bits(Place.STANDS),
            now.bits(Place.WAITS), acts.size(), seen.size(), text.length()}[what];
    }

    int person(int person, int what) {
        if (!in(person, 0, now.people.size() - 1)) {
            return UNKNOWN;
        }
        if (!in(what, 0, 6)) {
            return BAD;
        }
        Person p = now.people.get(person);
        return new int[] {p.row, p.mood, p.patience < 0 ? NONE : p.patience, p.shy, p.taste, p.needs, p.gift(now.bait)}[what];
    }

    int tune(int tune, int what) {
        if (!in(tune, 0, now.tunes.size() - 1)) {
            return UNKNOWN;
        }
        if (!in(what, 0, 3)) {
            return BAD;
        }
        Tune t = now.tunes.get(tune);
        return new int[] {t.kind, t.minutes, t.good, t.played}[what];
    }

    int play(int tune) {
        if (!in(tune, 0, now.tunes.size() - 1)) {
            return UNKNOWN;
        }
        act(now.play(tune));
        return now.ring();
    }

    int round(int side) {
        if (!in(side, 0, 1)) {
            return BAD;
        }
        int brings = now.brings(side);
        act(now.round(side));
        return brings;
    }

    int bait(int v) {
        if (!in(v, 0, 9)) {
            return BAD;
        }
        if (now.bait == v) {
            return LATE;
        }
        int was = now.bait;
        act(now.bait(v));
        return was;
    }

    int undo() {
        if (acts.isEmpty()) {
            return LATE;
        }
        now = acts.removeLast();
        return acts.size();
    }

    int would(int side, int what) {
        if (!in(side, 0, 1) || !in(what, 0, 1)) {
            return BAD;
        }
        return what == 0 ? now.brings(side) : now.round(side).bits(Place.LEFT) - now.bits(Place.LEFT);
    }

    int plan(int n, int what) {
        if (!in(n, 0, 3) || !in(what, 0, 2)) {
            return BAD;
        }
        int[] best = {-1, 0, 0};
        search(now, n, 0, best);
        return best[0] < 0 ? NONE : best[what];
    }

    private static void search(State state, int left, int row, int[] best) {
        if (left > 0) {
            for (int t = 0; t < state.tunes.size(); t++) {
                search(state.play(t), left - 1, row * 10 + t, best);
            }
            return;
        }
        for (int side = 0; side < 2; side++) {
            if (state.brings(side) > best[0]) {
                best[0] = state.brings(side);
                best[1] = row;
                best[2] = side;
            }
        }
    }

    int soon(int tune) {
        if (!in(tune, 0, now.tunes.size() - 1)) {
            return UNKNOWN;
        }
        int best = 0;
        for (int times = 1; times <= 9; times++) {
            if (behind(tune, times).brings(0) > behind(tune, best).brings(0)) {
                best = times;
            }
        }
        return best;
    }

    private State behind(int tune, int times) {
        return times == 0 ? now : behind(tune, times - 1).play(tune);
    }

    private static String figures(int n, int row) {
        String s = Integer.toString(row);
        return row < 0 || s.length() > n ? null : "0".repeat(n - s.length()) + s;
    }

    int grows(int n, int row) {
        if (!in(n, 1, 6) || figures(n, row) == null) {
            return BAD;
        }
        State state = now;
        for (char c : figures(n, row).toCharArray()) {
            if (c - '0' >= now.tunes.size()) {
                return BAD;
            }
            state = state.play(c - '0');
        }
        return state.ring();
    }

    int bestBait(int side) {
        if (!in(side, 0, 1)) {
            return BAD;
        }
        int best = 9;
        for (int v = 8; v >= 0; v--) {
            if (now.bait(v).brings(side) >= now.bait(best).brings(side)) {
                best = v;
            }
        }
        return best;
    }

    int judged(int n, int row) {
        if (!in(n, 1, 8) || figures(n, row) == null) {
            return BAD;
        }
        State state = now;
        for (int place = 0; place < n; place++) {
            state = state.act(figures(n, row).charAt(place) - '0');
            if (state == null || state.ring() == 0) {
                return place;
            }
        }
        return NONE;
    }

    int never() {
        List<Person> people = now.people;
        while (!State.come(people).equals(people)) {
            people = State.come(people);
        }
        return new State(people, now.tunes, 0, 0, 0).bits(Place.WAITS);
    }

    int gave(int t, int what) {
        if (!in(t, 0, 99) || !in(what, 0, 1)) {
            return BAD;
        }
        List<Integer> sets = new ArrayList<>();
        for (int set = 0; set < 1 << now.people.size(); set++) {
            if ((set | now.bits(Place.STANDS)) == now.bits(Place.STANDS) && gifts(set) == t && allSeen(set)) {
                sets.add(set);
            }
        }
        return what == 0 ? sets.size() : sets.stream().reduce((a, b) -> a & b).orElse(NONE);
    }

    private int gifts(int set) {
        int sum = 0;
        for (int i = 0; i < now.people.size(); i++) {
            sum += (set & 1 << i) != 0 ? now.people.get(i).gift(now.bait) : 0;
        }
        return sum;
    }

    private boolean allSeen(int set) {
        return seen.stream().filter(s -> s.person < now.people.size()).allMatch(s -> s.gives == ((set & 1 << s.person) != 0));
    }

    int see(int person, boolean gives) {
        if (!in(person, 0, now.people.size() - 1)) {
            return UNKNOWN;
        }
        if (seen.size() == 6) {
            return FULL;
        }
        seen.add(new Seen(person, gives));
        return seen.size();
    }

    int unsee() {
        int was = seen.size();
        seen.clear();
        return was;
    }

    /** Person by person: how many of all ways bring just so much, where the document's sets are counted elsewhere. */
    int luck(int x, int t, boolean upper) {
        if (!in(x, 0, 10) || !in(t, 0, 99)) {
            return BAD;
        }
        long[] ways = new long[100];
        ways[0] = 1;
        long all = 1;
        for (Person p : now.people) {
            if (p.stands()) {
                long[] next = new long[100];
                for (int sum = 0; sum < 80; sum++) {
                    next[sum] += ways[sum] * (10 - x);
                    next[sum + p.gift(now.bait)] += ways[sum] * x;
                }
                ways = next;
                all *= 10;
            }
        }
        long enough = 0;
        for (int sum = t; sum < 100; sum++) {
            enough += ways[sum];
        }
        long common = BigInteger.valueOf(enough).gcd(BigInteger.valueOf(all)).longValue();
        return (int) ((upper ? enough : all) / common);
    }

    long seed(long v) {
        long was = seed;
        seed = v;
        return was;
    }

    int day(int m) {
        if (!in(m, 1, 20)) {
            return BAD;
        }
        State state = now;
        for (int i = 0; i < m; i++) {
            BigInteger next = BigInteger.valueOf(seed).multiply(new BigInteger("6364136223846793005")).add(new BigInteger("1442695040888963407"));
            next = next.mod(BigInteger.ONE.shiftLeft(64));
            seed = next.longValue();
            State then = state.act(next.shiftRight(33).mod(BigInteger.valueOf(6)).intValue());
            state = then == null ? state : then;
        }
        return state.hat;
    }

    int keep(int slot) {
        if (!in(slot, 0, 1)) {
            return UNKNOWN;
        }
        slots[slot] = now;
        return now.ring();
    }

    int again(int slot) {
        if (!in(slot, 0, 1)) {
            return UNKNOWN;
        }
        if (slots[slot] == null) {
            return LATE;
        }
        now = slots[slot];
        acts.clear();
        return now.ring();
    }
}
