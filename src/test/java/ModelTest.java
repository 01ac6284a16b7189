import java.util.Random;

/** Runs of calls by chance, the same each time: every answer is compared with the plain model's. */
public final class ModelTest {
    private static int wrong = 0;
    private static int calls = 0;
    private static final int MOST_CALLS = 512;

    private final Random random;
    private final StringBuilder run = new StringBuilder();
    private final ShoeTable table = new ShoeTable();
    private final Model model = new Model();
    private int callsOfRun = 0;

    private ModelTest(long seed) {
        random = new Random(seed);
    }

    public static void main(String[] args) {
        for (int seed = 0; seed < 3000 && wrong < 5; seed++) {
            new ModelTest(seed).play(3 + seed % 6, 70);
        }
        for (int seed = 3000; seed < 3120 && wrong < 5; seed++) {
            new ModelTest(seed).play(16, 60);
        }
        for (int seed = 4000; seed < 4100 && wrong < 5; seed++) {
            new ModelTest(seed).playKnown();
        }
        for (int seed = 5000; seed < 5040 && wrong < 5; seed++) {
            new ModelTest(seed).playWideShoe();
        }
        for (int seed = 6000; seed < 6060 && wrong < 5; seed++) {
            new ModelTest(seed).playLong(4 + seed % 12);
        }
        System.out.println(calls + " calls compared, " + wrong + " wrong");
        if (wrong != 0) {
            System.exit(1);
        }
    }

    private void due(String call, long got, long want) {
        calls++;
        callsOfRun++;
        run.append(call).append(" = ").append(want).append('\n');
        if (got != want) {
            wrong++;
            System.out.println(run + "but the program answered " + got);
        }
    }

    private int between(int least, int most) {
        return least + random.nextInt(most - least + 1);
    }

    /** A few of the numbers lie outside, to see that nothing changes then. */
    private int rank() {
        return random.nextInt(40) == 0 ? (random.nextBoolean() ? 0 : 11) : between(1, 10);
    }

    private int part() {
        return random.nextInt(40) == 0 ? (random.nextBoolean() ? -1 : 2) : between(0, 1);
    }

    private void fill(int cards, int ranks) {
        int[] counts = new int[11];
        for (int i = 0; i < cards; i++) {
            counts[between(1, ranks)]++;
        }
        for (int r = 1; r <= 10; r++) {
            shoe(r, counts[r]);
        }
    }

    private void shoe(int r, int n) {
        due("shoe(" + r + ", " + n + ")", table.shoe(r, n), model.shoe(r, n));
    }

    private void take(int r, int to) {
        due("take(" + r + ", " + to + ")", table.take(r, to), model.take(r, to));
    }

    private void changeRules() {
        for (int i = 0; i < 4; i++) {
            int what = between(0, 6);
            int v = what < 2 ? between(9, 22) : between(0, 4);
            due("rule(" + what + ", " + v + ")", table.rule(what, v), model.rule(what, v));
        }
    }

    private void play(int cards, int length) {
        fill(cards, random.nextBoolean() ? 10 : between(1, 6));
        if (random.nextInt(3) == 0) {
            changeRules();
        }
        if (random.nextInt(5) != 0) {
            due("fresh()", table.fresh(), model.fresh());
        }
        for (int i = 0; i < length && wrong == 0; i++) {
            call(cards);
        }
    }

    /** About as many calls as an object is used for; no single step makes more than thirty. */
    private void playLong(int cards) {
        play(cards, 40);
        while (callsOfRun <= MOST_CALLS - 30 && wrong == 0) {
            call(cards);
        }
    }

    private void call(int cards) {
        switch (between(0, 29)) {
            case 0 -> shoe(rank(), random.nextInt(20) == 0 ? 33 : between(0, 2));
            case 1 -> {
                if (random.nextInt(3) == 0) {
                    due("fresh()", table.fresh(), model.fresh());
                }
            }
            case 2 -> changeRules();
            case 3, 4 -> {
                int r = rank();
                int v = between(-4, 4);
                due("mark(" + r + ", " + v + ")", table.mark(r, v), model.mark(r, v));
            }
            case 5 -> {
                int r = between(-1, 11);
                due("left(" + r + ")", table.left(r), model.left(r));
            }
            case 6, 7, 8 -> take(rank(), between(0, 8) == 8 ? 3 : between(0, 2));
            case 9, 10, 11 -> {
                int to = between(-1, 40) == 40 ? 3 : between(0, 2);
                due("draw(" + to + ")", table.draw(to), model.draw(to));
            }
            case 12 -> {
                int v = random.nextInt();
                due("seed(" + v + ")", table.seed(v), model.seed(v));
            }
            case 13 -> {
                if (random.nextInt(3) == 0) {
                    due("lay()", table.lay(), model.lay());
                }
            }
            case 14 -> tellAll();
            case 15 -> {
                if (random.nextInt(2) == 0) {
                    due("settle()", table.settle(), model.settle());
                }
            }
            case 16 -> fillAgain(cards);
            default -> askWorth();
        }
    }

    /** Most runs come to an empty shoe soon, where little can be asked. */
    private void fillAgain(int cards) {
        if (table.left(0) < 3) {
            fill(cards, 10);
            due("fresh()", table.fresh(), model.fresh());
        }
    }

    private void tellAll() {
        for (int what = -1; what <= 22; what++) {
            due("told(" + what + ")", table.told(what), model.told(what));
        }
    }

    private void askWorth() {
        int what = part();
        switch (between(0, 6)) {
            case 0 -> {
                int act = between(-1, 5);
                due("there(" + act + ")", table.there(act), model.there(act));
            }
            case 1, 2 -> {
                int act = random.nextInt(20) == 0 ? 5 : between(0, 4);
                due("worth(" + act + ", " + what + ")", table.worth(act, what), model.worth(act, what));
            }
            case 3 -> due("best()", table.best(), model.best());
            case 4 -> {
                int e = between(-1, 22);
                due("chance(" + e + ", " + what + ")", table.chance(e, what), model.chance(e, what));
            }
            case 5 -> {
                if (random.nextInt(3) == 0) {
                    due("deal(" + what + ")", table.deal(what), model.deal(what));
                } else {
                    int r = rank();
                    due("moved(" + r + ", " + what + ")", table.moved(r, what), model.moved(r, what));
                }
            }
            default -> {
                int r = rank();
                due("known(" + r + ", " + what + ")", table.known(r, what), model.known(r, what));
            }
        }
    }

    /** Shoes about as large as can be known. */
    private void playKnown() {
        fill(between(50, 62), between(2, 10));
        due("fresh()", table.fresh(), model.fresh());
        for (int i = 0; i < 10; i++) {
            int r = between(1, 10);
            int v = between(-3, 3);
            due("mark(" + r + ", " + v + ")", table.mark(r, v), model.mark(r, v));
            due("draw(2)", table.draw(2), model.draw(2));
            due("told(6)", table.told(6), model.told(6));
            r = between(1, 10);
            due("known(" + r + ", 0)", table.known(r, 0), model.known(r, 0));
            due("known(" + r + ", 1)", table.known(r, 1), model.known(r, 1));
        }
    }

    /** Twelve cards of all ranks, where the most heaps are told apart. */
    private void playWideShoe() {
        for (int r = 1; r <= 10; r++) {
            shoe(r, 1);
        }
        int[] more = {between(1, 10), between(1, 10), between(1, 10), between(1, 10), between(1, 10)};
        for (int r : more) {
            shoe(r, table.left(r) + 1);
        }
        changeRules();
        take(more[0], 0);
        take(more[1], 0);
        take(more[2], 1);
        for (int act = 0; act <= 4; act++) {
            due("worth(" + act + ", 0)", table.worth(act, 0), model.worth(act, 0));
            due("worth(" + act + ", 1)", table.worth(act, 1), model.worth(act, 1));
        }
        due("best()", table.best(), model.best());
        due("moved(1, 0)", table.moved(1, 0), model.moved(1, 0));
        for (int e = 0; e <= 21; e++) {
            due("chance(" + e + ", 0)", table.chance(e, 0), model.chance(e, 0));
        }
    }
}
