import java.util.Random;

/** Runs of calls by a fixed seed, each answer looked at against the model's. */
public final class ModelTest {
    private static final Due DUE = new Due("ModelTest");
    private static final int RUNS = 1500;
    private static final int CALLS = 512;
    /** A new square takes fewer calls than this, so that none is begun that would go beyond what the document speaks of. */
    private static final int SQUARE_CALLS = 80;

    private final Random random;
    private final HatRound x = new HatRound();
    private final Model model = new Model();
    private final String run;
    private int calls = 0;

    private ModelTest(int number) {
        random = new Random(number);
        run = "run " + number + ", call ";
    }

    public static void main(String[] args) {
        for (int number = 0; number < RUNS; number++) {
            new ModelTest(number).go();
        }
        DUE.end();
    }

    private void go() {
        while (calls < CALLS) {
            if (calls == 0 || random.nextInt(120) == 0 && calls < CALLS - SQUARE_CALLS) {
                newSquare();
            } else if (random.nextInt(3) == 0) {
                act();
            } else {
                ask(random.nextInt(26));
            }
        }
    }

    private void due(String call, long got, long want) {
        calls++;
        DUE.is(run + calls + " " + call, got, want);
    }

    /** Mostly within 0 .. most, at times beside it. */
    private int about(int most) {
        switch (random.nextInt(40)) {
            case 0: return -1;
            case 1: return most + 1;
            case 2: return random.nextInt();
            default: return random.nextInt(most + 1);
        }
    }

    private void newSquare() {
        due("wipe", x.wipe(), model.wipe());
        String text = text();
        for (int i = 0; i < text.length(); i++) {
            due("write", x.write(text.charAt(i)), model.write(text.charAt(i)));
        }
        due("fault of " + text, x.fault(), model.fault());
        due("square of " + text, x.square(), model.square());
    }

    private char figure(int least, int most) {
        return (char) ('0' + least + random.nextInt(most - least + 1));
    }

    private String text() {
        StringBuilder text = new StringBuilder("H");
        int people = random.nextInt(8) == 0 ? random.nextInt(8) : 3 + random.nextInt(4);
        int tunes = random.nextInt(8) == 0 ? random.nextInt(6) : 1 + random.nextInt(4);
        int patienceLeast = random.nextInt(10);
        for (int left = people + tunes; left > 0; left--) {
            if (random.nextInt(left) < people) {
                people--;
                text.append('P').append(figure(0, 3)).append(figure(0, 9)).append(figure(patienceLeast, 9));
                text.append(figure(0, 3)).append(figure(0, 2)).append(random.nextInt(2) == 0 ? '0' : figure(0, 5));
            } else {
                tunes--;
                text.append('T').append(figure(0, 2)).append(figure(1, random.nextBoolean() ? 2 : 9)).append(figure(0, 9));
            }
        }
        if (random.nextInt(4) == 0) {
            text.setCharAt(random.nextInt(text.length()), "HPT/0123456789:".charAt(random.nextInt(15)));
        }
        if (random.nextInt(6) == 0) {
            text.setLength(random.nextInt(text.length() + 1));
        }
        return text.toString();
    }

    private void act() {
        int a;
        switch (random.nextInt(8)) {
            case 0: case 1: case 2:
                a = about(3);
                due("play(" + a + ")", x.play(a), model.play(a));
                break;
            case 3:
                a = about(1);
                due("round(" + a + ")", x.round(a), model.round(a));
                break;
            case 4: case 5:
                a = about(9);
                due("bait(" + a + ")", x.bait(a), model.bait(a));
                break;
            case 6:
                due("undo()", x.undo(), model.undo());
                break;
            default:
                a = about(1);
                if (random.nextInt(3) == 0) {
                    due("keep(" + a + ")", x.keep(a), model.keep(a));
                } else {
                    due("again(" + a + ")", x.again(a), model.again(a));
                }
        }
    }

    private int row(int n, int most) {
        int row = 0;
        for (int i = 0; i < n && i < 9; i++) {
            row = row * 10 + random.nextInt(most + 1);
        }
        return random.nextInt(12) == 0 ? about(1000) : row;
    }

    private void ask(int which) {
        if (which < 9) {
            askOfNow(which);
        } else if (which < 18) {
            askOfPlans(which);
        } else {
            askOfChances(which);
        }
    }

    private void askOfNow(int which) {
        int a;
        int b;
        switch (which) {
            case 0: case 1: case 2: case 3:
                a = about(9);
                due("about(" + a + ")", x.about(a), model.about(a));
                break;
            case 4: case 5: case 6:
                a = about(5);
                b = about(6);
                due("person(" + a + ", " + b + ")", x.person(a, b), model.person(a, b));
                break;
            case 7:
                a = about(3);
                b = about(3);
                due("tune(" + a + ", " + b + ")", x.tune(a, b), model.tune(a, b));
                break;
            default:
                a = random.nextInt(30) == 0 ? about(255) : '0';
                due("write(" + a + ")", x.write(a), model.write(a));
        }
    }

    private void askOfPlans(int which) {
        int a;
        int b;
        switch (which) {
            case 9: case 10:
                a = about(1);
                b = about(1);
                due("would(" + a + ", " + b + ")", x.would(a, b), model.would(a, b));
                break;
            case 11: case 12:
                a = about(3);
                b = about(2);
                due("plan(" + a + ", " + b + ")", x.plan(a, b), model.plan(a, b));
                break;
            case 13:
                a = about(3);
                due("soon(" + a + ")", x.soon(a), model.soon(a));
                break;
            case 14:
                a = about(6);
                b = row(a, random.nextInt(4));
                due("grows(" + a + ", " + b + ")", x.grows(a, b), model.grows(a, b));
                break;
            case 15:
                a = about(1);
                due("bestBait(" + a + ")", x.bestBait(a), model.bestBait(a));
                break;
            case 16:
                a = about(8);
                b = row(a, random.nextInt(7));
                due("judged(" + a + ", " + b + ")", x.judged(a, b), model.judged(a, b));
                break;
            default:
                due("never()", x.never(), model.never());
        }
    }

    private void askOfChances(int which) {
        int a;
        int b;
        boolean c = random.nextBoolean();
        switch (which) {
            case 18: case 19:
                a = about(random.nextInt(20));
                b = about(1);
                due("gave(" + a + ", " + b + ")", x.gave(a, b), model.gave(a, b));
                break;
            case 20:
                a = about(5);
                due("see(" + a + ", " + c + ")", x.see(a, c), model.see(a, c));
                break;
            case 21:
                due("unsee()", x.unsee(), model.unsee());
                break;
            case 22: case 23:
                a = about(10);
                b = about(random.nextInt(30));
                due("luck(" + a + ", " + b + ", " + c + ")", x.luck(a, b, c), model.luck(a, b, c));
                break;
            case 24:
                long v = random.nextLong();
                due("seed(" + v + ")", x.seed(v), model.seed(v));
                break;
            default:
                a = about(20);
                due("day(" + a + ")", x.day(a), model.day(a));
        }
    }
}
