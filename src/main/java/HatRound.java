import java.util.Arrays;

/** A square on which tunes are played and a hat goes round; the document is shared/DOC.md. */
public final class HatRound {
    public static final int UNKNOWN = -1, BAD = -2, LATE = -3, FULL = -4, NONE = -9;

    private static final int TEXT_MOST = 64;
    private static final int PEOPLE_MOST = 6;
    private static final int TUNES_MOST = 4;
    private static final int ROWS = 4;
    private static final int SIDES = 2;
    private static final int MOOD_MOST = 20;
    private static final int TASTE_JOY = 2;
    private static final int BAIT_MOST = 9;
    private static final int ACTS_MOST = 12;
    private static final int SEEN_MOST = 6;
    private static final int SLOTS = 2;

    private static final int PLAN_MOST = 3;
    private static final int SOON_MOST = 9;
    private static final int GROWS_MOST = 6;
    private static final int JUDGED_MOST = 8;
    private static final int DAY_MOST = 20;
    private static final int FIRST_HAT_ACT = 4;
    private static final int ACT_KINDS = 6;

    private static final int LOUDEST = 5;
    private static final int LOUDER_PEOPLE_MOST = 20;
    private static final int COINS_MOST = 99;
    private static final int TENTHS = 10;

    private static final long SEED_FACTOR = 6364136223846793005L;
    private static final long SEED_STEP = 1442695040888963407L;

    // The figures of a part, in the order in which the text tells them.
    private static final int ROW = 0, MOOD = 1, PATIENCE = 2, SHY = 3, TASTE = 4, NEEDS = 5;
    private static final int GIFT = 6;
    private static final int KIND = 0, MINUTES = 1, GOOD = 2, PLAYED = 3;
    private static final int PERSON_FIGURES = 6;
    private static final int TUNE_FIGURES = 3;
    private static final int[] PERSON_LEAST = {0, 0, 0, 0, 0, 0};
    private static final int[] PERSON_MOST = {3, 9, 9, 3, 2, 5};
    private static final int[] TUNE_LEAST = {0, 1, 0};
    private static final int[] TUNE_MOST = {2, 9, 9};

    private final Text text;
    private final Facts facts;
    private final Scene now;
    private final Acts acts;
    private final Scene[] kept;
    private final boolean[] isKept;
    private final int[] seenPeople;
    private final boolean[] seenGives;
    private int seenCount;
    private long seedNow;

    // Made once and used again by every call that changes nothing.
    private final Scene trial;
    private final Scene hatTrial;
    private final Best best;

    public HatRound() {
        text = new Text();
        facts = new Facts();
        now = new Scene(facts);
        acts = new Acts(facts);
        kept = new Scene[SLOTS];
        for (int slot = 0; slot < SLOTS; slot++) {
            kept[slot] = new Scene(facts);
        }
        isKept = new boolean[SLOTS];
        seenPeople = new int[SEEN_MOST];
        seenGives = new boolean[SEEN_MOST];
        seenCount = 0;
        seedNow = 0L;
        trial = new Scene(facts);
        hatTrial = new Scene(facts);
        best = new Best();
    }

    // ---- the square

    public int write(int letter) {
        if (!isWithin(letter, 0, 255)) {
            return BAD;
        }
        if (text.length >= TEXT_MOST) {
            return FULL;
        }
        text.append(letter);
        return text.length;
    }

    public int wipe() {
        int before = text.length;
        text.clear();
        return before;
    }

    public int fault() {
        return text.firstFault();
    }

    public int square() {
        if (text.firstFault() != NONE) {
            return LATE;
        }
        facts.learn(text);
        now.open();
        acts.forgetAll();
        for (int slot = 0; slot < SLOTS; slot++) {
            isKept[slot] = false;
        }
        return 10 * facts.people + facts.tunes;
    }

    public int about(int what) {
        switch (what) {
            case 0: return facts.people;
            case 1: return facts.tunes;
            case 2: return now.minute;
            case 3: return now.hat;
            case 4: return now.bait;
            case 5: return now.standing;
            case 6: return now.waiting;
            case 7: return acts.count;
            case 8: return seenCount;
            case 9: return text.length;
            default: return BAD;
        }
    }

    public int person(int person, int what) {
        if (!facts.hasPerson(person)) {
            return UNKNOWN;
        }
        switch (what) {
            case MOOD: return now.moodOf(person);
            case PATIENCE: return now.patienceOf(person) < 0 ? NONE : now.patienceOf(person);
            case GIFT: return now.giftOf(person);
            case ROW: case SHY: case TASTE: case NEEDS: return facts.ofPerson(person, what);
            default: return BAD;
        }
    }

    public int tune(int tune, int what) {
        if (!facts.hasTune(tune)) {
            return UNKNOWN;
        }
        switch (what) {
            case KIND: case MINUTES: case GOOD: return facts.ofTune(tune, what);
            case PLAYED: return now.timesPlayed(tune);
            default: return BAD;
        }
    }

    // ---- acts

    public int play(int tune) {
        if (!facts.hasTune(tune)) {
            return UNKNOWN;
        }
        acts.remember(now);
        now.hear(tune);
        return now.ringSize();
    }

    public int round(int side) {
        if (!isSide(side)) {
            return BAD;
        }
        acts.remember(now);
        return now.passHat(side);
    }

    public int bait(int v) {
        if (!isWithin(v, 0, BAIT_MOST)) {
            return BAD;
        }
        if (v == now.bait) {
            return LATE;
        }
        int before = now.bait;
        acts.remember(now);
        now.bait = v;
        return before;
    }

    public int undo() {
        if (acts.count == 0) {
            return LATE;
        }
        acts.takeBackInto(now);
        return acts.count;
    }

    // ---- plans

    public int would(int side, int what) {
        if (!isSide(side) || !isWithin(what, 0, 1)) {
            return BAD;
        }
        trial.copy(now);
        int brought = trial.passHat(side);
        // Nobody leaves while the hat goes round but by slipping off.
        return what == 0 ? brought : now.standing & ~trial.standing;
    }

    public int plan(int n, int what) {
        if (!isWithin(n, 0, PLAN_MOST) || !isWithin(what, 0, 2)) {
            return BAD;
        }
        if (n > 0 && facts.tunes == 0) {
            return NONE;
        }
        searchPlan(n);
        if (what == 0) {
            return best.most;
        }
        return what == 1 ? best.choice / SIDES : best.choice % SIDES;
    }

    public int soon(int tune) {
        if (!facts.hasTune(tune)) {
            return UNKNOWN;
        }
        best.clear();
        trial.copy(now);
        for (int times = 0; times <= SOON_MOST; times++) {
            best.offer(hatBehind(trial, 0), times);
            trial.hear(tune);
        }
        return best.choice;
    }

    public int grows(int n, int row) {
        if (!isWithin(n, 1, GROWS_MOST) || !isRow(n, row) || !areTunes(n, row)) {
            return BAD;
        }
        trial.copy(now);
        hearRow(trial, n, row);
        return trial.ringSize();
    }

    public int bestBait(int side) {
        if (!isSide(side)) {
            return BAD;
        }
        best.clear();
        trial.copy(now);
        for (int v = 0; v <= BAIT_MOST; v++) {
            trial.bait = v;
            best.offer(hatBehind(trial, side), v);
        }
        return best.choice;
    }

    public int judged(int n, int row) {
        if (!isWithin(n, 1, JUDGED_MOST) || !isRow(n, row)) {
            return BAD;
        }
        trial.copy(now);
        for (int place = 0; place < n; place++) {
            if (!enact(trial, figureAt(n, row, place)) || trial.standing == 0) {
                return place;
            }
        }
        return NONE;
    }

    public int never() {
        trial.copy(now);
        // Each time but the last must bring somebody, so as many times as there can be people are enough.
        for (int times = 0; times < PEOPLE_MOST; times++) {
            trial.letCome();
        }
        return trial.waiting;
    }

    // ---- rivals, collectors

    public int louder(int k, int what) {
        if (!isWithin(k, 1, LOUDER_PEOPLE_MOST) || !isWithin(what, 0, 1)) {
            return BAD;
        }
        int count = 0;
        int first = NONE;
        for (int one = 0; one <= LOUDEST; one++) {
            for (int other = 0; other <= LOUDEST; other++) {
                if (isContent(k, one, other) && isContent(k, other, one)) {
                    first = count == 0 ? 10 * one + other : first;
                    count++;
                }
            }
        }
        return what == 0 ? count : first;
    }

    public int shares(int t, int w, int v) {
        if (!isCoins(t) || !isCoins(w) || !isCoins(v)) {
            return BAD;
        }
        for (int x = 0; x <= TENTHS; x++) {
            int share = t * x / TENTHS;
            if (share >= w && share >= v) {
                return x;
            }
        }
        return NONE;
    }

    // ---- who gave, chances

    public int gave(int t, int what) {
        if (!isCoins(t) || !isWithin(what, 0, 1)) {
            return BAD;
        }
        int count = 0;
        int ofAll = now.standing;
        for (int set = 0; set < 1 << PEOPLE_MOST; set++) {
            if (now.areStanding(set) && isAsSeen(set) && now.giftsOf(set) == t) {
                count++;
                ofAll = ofAll & set;
            }
        }
        if (what == 0) {
            return count;
        }
        return count == 0 ? NONE : ofAll;
    }

    public int see(int person, boolean gives) {
        if (!facts.hasPerson(person)) {
            return UNKNOWN;
        }
        if (seenCount >= SEEN_MOST) {
            return FULL;
        }
        seenPeople[seenCount] = person;
        seenGives[seenCount] = gives;
        seenCount++;
        return seenCount;
    }

    public int unsee() {
        int before = seenCount;
        seenCount = 0;
        return before;
    }

    public int luck(int x, int t, boolean upper) {
        if (!isWithin(x, 0, TENTHS) || !isCoins(t)) {
            return BAD;
        }
        int above = 0;
        for (int set = 0; set < 1 << PEOPLE_MOST; set++) {
            if (now.areStanding(set) && now.giftsOf(set) >= t) {
                above += waysToStay(x, Integer.bitCount(set));
            }
        }
        int below = power(TENTHS, now.ringSize());
        int common = commonDivisor(above, below);
        if (common == 0) {
            return 0;
        }
        return upper ? above / common : below / common;
    }

    public long seed(long v) {
        long before = seedNow;
        seedNow = v;
        return before;
    }

    public int day(int m) {
        if (!isWithin(m, 1, DAY_MOST)) {
            return BAD;
        }
        trial.copy(now);
        for (int times = 0; times < m; times++) {
            seedNow = seedNow * SEED_FACTOR + SEED_STEP;
            enact(trial, (int) ((seedNow >>> 33) % ACT_KINDS));
        }
        return trial.hat;
    }

    // ---- slots

    public int keep(int slot) {
        if (!isSlot(slot)) {
            return UNKNOWN;
        }
        kept[slot].copy(now);
        isKept[slot] = true;
        return now.ringSize();
    }

    public int again(int slot) {
        if (!isSlot(slot)) {
            return UNKNOWN;
        }
        if (!isKept[slot]) {
            return LATE;
        }
        now.copy(kept[slot]);
        acts.forgetAll();
        return now.ringSize();
    }

    // ---- what the calls are made of

    private static boolean isWithin(int value, int least, int most) {
        return value >= least && value <= most;
    }

    private static boolean isSide(int side) {
        return isWithin(side, 0, SIDES - 1);
    }

    private static boolean isSlot(int slot) {
        return isWithin(slot, 0, SLOTS - 1);
    }

    private static boolean isCoins(int coins) {
        return isWithin(coins, 0, COINS_MOST);
    }

    private static int power(int base, int times) {
        int product = 1;
        for (int i = 0; i < times; i++) {
            product *= base;
        }
        return product;
    }

    /** Only for n up to 9: ten times itself ten times is more than an int holds. */
    private static boolean isRow(int n, int row) {
        return row >= 0 && row < power(10, n);
    }

    private static int figureAt(int n, int row, int place) {
        int rest = row;
        for (int i = n - 1; i > place; i--) {
            rest = rest / 10;
        }
        return rest % 10;
    }

    private boolean areTunes(int n, int row) {
        for (int place = 0; place < n; place++) {
            if (!facts.hasTune(figureAt(n, row, place))) {
                return false;
            }
        }
        return true;
    }

    private static void hearRow(Scene scene, int n, int row) {
        for (int place = 0; place < n; place++) {
            scene.hear(figureAt(n, row, place));
        }
    }

    /** Does the act that a figure tells; false, with nothing done, if there can be no such act. */
    private boolean enact(Scene scene, int act) {
        if (facts.hasTune(act)) {
            scene.hear(act);
            return true;
        }
        if (isSide(act - FIRST_HAT_ACT)) {
            scene.passHat(act - FIRST_HAT_ACT);
            return true;
        }
        return false;
    }

    private int hatBehind(Scene scene, int side) {
        hatTrial.copy(scene);
        return hatTrial.passHat(side);
    }

    /** Leaves in best row times SIDES and side: one number, so that the first of like ones is the least. */
    private void searchPlan(int n) {
        best.clear();
        int end = power(10, n);
        for (int row = 0; row < end; row++) {
            if (!areTunes(n, row)) {
                continue;
            }
            trial.copy(now);
            hearRow(trial, n, row);
            for (int side = 0; side < SIDES; side++) {
                best.offer(hatBehind(trial, side), row * SIDES + side);
            }
        }
    }

    private static int gainOf(int k, int own, int rival) {
        int came = own > rival ? 2 * k : own == rival ? k : 0;
        return came - own * own;
    }

    private static boolean isContent(int k, int own, int rival) {
        for (int otherwise = 0; otherwise <= LOUDEST; otherwise++) {
            if (gainOf(k, otherwise, rival) > gainOf(k, own, rival)) {
                return false;
            }
        }
        return true;
    }

    private boolean isAsSeen(int set) {
        for (int i = 0; i < seenCount && i < SEEN_MOST; i++) {
            int person = seenPeople[i];
            // What was seen outlives the square on which it was seen.
            if (facts.hasPerson(person) && has(set, person) != seenGives[i]) {
                return false;
            }
        }
        return true;
    }

    /** Of as many ways as there are tenths for each that stands, those by which just one set of so many stays. */
    private int waysToStay(int x, int staying) {
        return power(x, staying) * power(TENTHS - x, now.ringSize() - staying);
    }

    private static int commonDivisor(int a, int b) {
        int greater = a;
        int less = b;
        // Two steps halve the numbers at least, so an int's bits twice are enough.
        for (int step = 0; step < 64 && less != 0; step++) {
            int left = greater % less;
            greater = less;
            less = left;
        }
        return greater;
    }

    private static boolean has(int set, int person) {
        return (set >> person & 1) != 0;
    }

    /** The bytes that were written. */
    private static final class Text {
        private final int[] bytes = new int[TEXT_MOST];
        private int length = 0;

        void append(int letter) {
            if (length < TEXT_MOST) {
                bytes[length] = letter;
                length++;
            }
        }

        void clear() {
            length = 0;
        }

        /** NONE behind the end, which is no byte. */
        int byteAt(int place) {
            return place >= 0 && place < length && place < bytes.length ? bytes[place] : NONE;
        }

        int firstFault() {
            if (byteAt(0) != 'H') {
                return 0;
            }
            int people = 0;
            int tunes = 0;
            int partLength = 0;
            for (int at = 1; at < length; at += partLength) {
                int wrong = at;
                if (byteAt(at) == 'P' && people < PEOPLE_MOST) {
                    people++;
                    wrong = firstWrongFigure(at + 1, PERSON_LEAST, PERSON_MOST);
                    partLength = 1 + PERSON_FIGURES;
                } else if (byteAt(at) == 'T' && tunes < TUNES_MOST) {
                    tunes++;
                    wrong = firstWrongFigure(at + 1, TUNE_LEAST, TUNE_MOST);
                    partLength = 1 + TUNE_FIGURES;
                }
                if (wrong != NONE) {
                    return wrong;
                }
            }
            return NONE;
        }

        private int firstWrongFigure(int from, int[] least, int[] most) {
            for (int i = 0; i < least.length && i < most.length; i++) {
                if (from + i >= length) {
                    return length;
                }
                if (!isWithin(byteAt(from + i) - '0', least[i], most[i])) {
                    return from + i;
                }
            }
            return NONE;
        }
    }

    /** What a text without a fault told, which no act changes. */
    private static final class Facts {
        private int people = 0;
        private int tunes = 0;
        private final int[] personFigures = new int[PEOPLE_MOST * PERSON_FIGURES];
        private final int[] tuneFigures = new int[TUNES_MOST * TUNE_FIGURES];

        /** The text has no fault. */
        void learn(Text text) {
            people = 0;
            tunes = 0;
            int partLength = 0;
            for (int at = 1; at < text.length; at += partLength) {
                if (text.byteAt(at) == 'P') {
                    copyFigures(text, at + 1, personFigures, people * PERSON_FIGURES, PERSON_FIGURES);
                    people++;
                    partLength = 1 + PERSON_FIGURES;
                } else {
                    copyFigures(text, at + 1, tuneFigures, tunes * TUNE_FIGURES, TUNE_FIGURES);
                    tunes++;
                    partLength = 1 + TUNE_FIGURES;
                }
            }
        }

        private static void copyFigures(Text text, int from, int[] figures, int to, int count) {
            for (int i = 0; i < count && to + i < figures.length; i++) {
                figures[to + i] = text.byteAt(from + i) - '0';
            }
        }

        boolean hasPerson(int person) {
            return isWithin(person, 0, people - 1);
        }

        boolean hasTune(int tune) {
            return isWithin(tune, 0, tunes - 1);
        }

        int ofPerson(int person, int figure) {
            return figureOf(personFigures, person, PERSON_FIGURES, figure);
        }

        int ofTune(int tune, int figure) {
            return figureOf(tuneFigures, tune, TUNE_FIGURES, figure);
        }

        private static int figureOf(int[] figures, int number, int width, int figure) {
            int place = number * width + figure;
            return place >= 0 && place < figures.length ? figures[place] : 0;
        }
    }

    /** How things stand at one moment: all that an act changes, and so all that is undone and kept. */
    private static final class Scene {
        private final Facts facts;
        private int minute = 0;
        private int hat = 0;
        private int bait = 0;
        private int standing = 0;
        private int waiting = 0;
        private final int[] mood = new int[PEOPLE_MOST];
        private final int[] patience = new int[PEOPLE_MOST];
        private final int[] played = new int[TUNES_MOST];

        Scene(Facts facts) {
            this.facts = facts;
        }

        void copy(Scene other) {
            minute = other.minute;
            hat = other.hat;
            bait = other.bait;
            standing = other.standing;
            waiting = other.waiting;
            System.arraycopy(other.mood, 0, mood, 0, PEOPLE_MOST);
            System.arraycopy(other.patience, 0, patience, 0, PEOPLE_MOST);
            System.arraycopy(other.played, 0, played, 0, TUNES_MOST);
        }

        void open() {
            minute = 0;
            hat = 0;
            bait = 0;
            standing = 0;
            waiting = 0;
            Arrays.fill(played, 0);
            for (int person = 0; person < PEOPLE_MOST; person++) {
                mood[person] = facts.ofPerson(person, MOOD);
                patience[person] = facts.ofPerson(person, PATIENCE);
                if (facts.hasPerson(person)) {
                    boolean needsNone = facts.ofPerson(person, NEEDS) == 0;
                    standing |= needsNone ? 1 << person : 0;
                    waiting |= needsNone ? 0 : 1 << person;
                }
            }
        }

        int ringSize() {
            return Integer.bitCount(standing);
        }

        boolean areStanding(int set) {
            return (set & ~standing) == 0;
        }

        int moodOf(int person) {
            return person >= 0 && person < PEOPLE_MOST ? mood[person] : 0;
        }

        int patienceOf(int person) {
            return person >= 0 && person < PEOPLE_MOST ? patience[person] : 0;
        }

        int timesPlayed(int tune) {
            return tune >= 0 && tune < TUNES_MOST ? played[tune] : 0;
        }

        int giftOf(int person) {
            return Math.min(moodOf(person) / 2, bait + 1);
        }

        int giftsOf(int set) {
            int sum = 0;
            for (int person = 0; person < PEOPLE_MOST; person++) {
                sum += has(set, person) ? giftOf(person) : 0;
            }
            return sum;
        }

        void hear(int tune) {
            if (!facts.hasTune(tune) || tune >= TUNES_MOST) {
                return;
            }
            int minutes = facts.ofTune(tune, MINUTES);
            int joy = Math.max(0, facts.ofTune(tune, GOOD) - played[tune]);
            for (int person = 0; person < PEOPLE_MOST; person++) {
                if (!has(standing, person)) {
                    continue;
                }
                patience[person] -= minutes;
                if (patience[person] < 0) {
                    standing &= ~(1 << person);
                } else {
                    boolean toTaste = facts.ofTune(tune, KIND) == facts.ofPerson(person, TASTE);
                    mood[person] = Math.min(MOOD_MOST, mood[person] + joy + (toTaste ? TASTE_JOY : 0));
                }
            }
            played[tune]++;
            minute += minutes;
            letCome();
        }

        void letCome() {
            for (int person = 0; person < PEOPLE_MOST; person++) {
                if (has(waiting, person) && ringSize() >= facts.ofPerson(person, NEEDS)) {
                    waiting &= ~(1 << person);
                    standing |= 1 << person;
                }
            }
        }

        /** Answers how much it brings. */
        int passHat(int side) {
            int before = hat;
            int visited = 0;
            for (int step = 0; step < ROWS; step++) {
                int row = side == 0 ? step : ROWS - 1 - step;
                visited |= 1 << row;
                collectFrom(row);
                slipOff(row, visited);
            }
            minute++;
            return hat - before;
        }

        private void collectFrom(int row) {
            for (int person = 0; person < PEOPLE_MOST; person++) {
                if (has(standing, person) && facts.ofPerson(person, ROW) == row) {
                    int gift = giftOf(person);
                    hat += gift;
                    bait = Math.max(bait, gift);
                    mood[person] = 0;
                }
            }
        }

        private void slipOff(int row, int visited) {
            for (int person = 0; person < PEOPLE_MOST; person++) {
                int own = facts.ofPerson(person, ROW);
                if (has(standing, person) && (visited >> own & 1) == 0
                        && Math.abs(own - row) <= facts.ofPerson(person, SHY)) {
                    standing &= ~(1 << person);
                }
            }
        }
    }

    /** The scenes as they were ahead of the last acts, in a ring so that the first can be forgotten. */
    private static final class Acts {
        private final Scene[] before = new Scene[ACTS_MOST];
        private int first = 0;
        private int count = 0;

        Acts(Facts facts) {
            for (int i = 0; i < ACTS_MOST; i++) {
                before[i] = new Scene(facts);
            }
        }

        void remember(Scene scene) {
            before[(first + count) % ACTS_MOST].copy(scene);
            if (count < ACTS_MOST) {
                count++;
            } else {
                first = (first + 1) % ACTS_MOST;
            }
        }

        void takeBackInto(Scene scene) {
            if (count > 0) {
                count--;
                scene.copy(before[(first + count) % ACTS_MOST]);
            }
        }

        void forgetAll() {
            first = 0;
            count = 0;
        }
    }

    /** The first of the greatest amounts that were offered, and for which choice. */
    private static final class Best {
        private int most = -1;
        private int choice = 0;

        void clear() {
            most = -1;
            choice = 0;
        }

        void offer(int amount, int forChoice) {
            if (amount > most) {
                most = amount;
                choice = forChoice;
            }
        }
    }
}
