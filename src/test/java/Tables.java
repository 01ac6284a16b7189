/** Tables to begin a test with. A test extends it, so that it can name them shortly. */
abstract class Tables {
    static int[] cards(int... ranks) {
        return ranks;
    }

    /** So many cards of one rank. */
    static int[] times(int n, int rank) {
        int[] row = new int[n];
        java.util.Arrays.fill(row, rank);
        return row;
    }

    /** A table whose shoe has just these cards, fresh. */
    static ShoeTable of(int... ranks) {
        ShoeTable x = new ShoeTable();
        add(x, ranks);
        x.fresh();
        return x;
    }

    static void add(ShoeTable x, int... ranks) {
        for (int r : ranks) {
            x.shoe(r, x.left(r) + 1);
        }
    }

    /** Puts cards into THE HAND that come over and above those of the shoe. */
    static void hold(ShoeTable x, int... ranks) {
        for (int r : ranks) {
            add(x, r);
            x.take(r, 0);
        }
    }

    static void showUp(ShoeTable x, int rank) {
        add(x, rank);
        x.take(rank, 1);
    }

    /** A hand against UP, with the cards that are left. */
    static ShoeTable table(int[] hand, int up, int... left) {
        ShoeTable x = of(left);
        hold(x, hand);
        showUp(x, up);
        return x;
    }

    /** The same, with a target and where the house stands. */
    static ShoeTable table(int target, int stands, int[] hand, int up, int... left) {
        ShoeTable x = table(hand, up, left);
        aim(x, target, stands);
        return x;
    }

    static ShoeTable aim(ShoeTable x, int target, int stands) {
        x.rule(1, 10);
        x.rule(0, target);
        x.rule(1, stands);
        return x;
    }

    static ShoeTable softly(ShoeTable x) {
        x.rule(2, 1);
        return x;
    }

    /**
     * Hand, UP, bank, marks, rules and THE DRAW are all other than at first. Eight cards left the shoe
     * and eight are there, so that all that can be asked is told.
     */
    static ShoeTable busy() {
        ShoeTable x = new ShoeTable();
        int[] counts = {0, 3, 2, 1, 0, 2, 1, 1, 2, 1, 3};
        for (int r = 1; r <= 10; r++) {
            x.shoe(r, counts[r]);
            x.mark(r, r % 7 - 3);
        }
        x.fresh();
        x.seed(-89);
        x.take(10, 0);
        x.take(9, 1);
        x.settle();
        x.rule(6, 4);
        x.rule(2, 1);
        x.rule(1, 16);
        x.rule(0, 20);
        x.take(5, 0);
        x.take(5, 0);
        x.take(8, 1);
        x.draw(2);
        return x;
    }
}
