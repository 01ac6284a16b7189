/** Each promise with answers that were worked out by hand: ordinary calls, edges, wrong numbers. */
public final class PromisesTest extends Tables {
    private static final int NONE = -1, OUTSIDE = -1001, STATE = -1002, FULL = -1003, LARGE = -1004;
    private static final int[] FAR = {Integer.MIN_VALUE, -1, 11, 33, 1000, Integer.MAX_VALUE};
    private static int wrong = 0;
    private static int promise = 0;

    public static void main(String[] args) {
        newObject();
        shoe();
        fresh();
        rule();
        mark();
        left();
        take();
        draw();
        seed();
        lay();
        told();
        settle();
        there();
        worthOfStand();
        worthOfDraw();
        worthOfDoubleSplitAndGiveUp();
        worthRefused();
        best();
        chance();
        deal();
        moved();
        known();
        System.out.println(wrong == 0 ? "all promises hold" : wrong + " answers are not as due");
        if (wrong != 0) {
            System.exit(1);
        }
    }

    private static void due(String what, long got, long want) {
        if (got != want) {
            wrong++;
            System.out.println("promise " + promise + ": " + what + " answered " + got + ", due is " + want);
        }
    }

    private static void dueWorth(ShoeTable x, int act, long upper, long lower) {
        due("worth(" + act + ", 0)", x.worth(act, 0), upper);
        due("worth(" + act + ", 1)", x.worth(act, 1), lower);
    }

    private static void dueChance(ShoeTable x, int e, long upper, long lower) {
        due("chance(" + e + ", 0)", x.chance(e, 0), upper);
        due("chance(" + e + ", 1)", x.chance(e, 1), lower);
    }

    private static void dueMoved(ShoeTable x, int rank, long upper, long lower) {
        due("moved(" + rank + ", 0)", x.moved(rank, 0), upper);
        due("moved(" + rank + ", 1)", x.moved(rank, 1), lower);
    }

    private static void dueKnown(ShoeTable x, int rank, long upper, long lower) {
        due("known(" + rank + ", 0)", x.known(rank, 0), upper);
        due("known(" + rank + ", 1)", x.known(rank, 1), lower);
    }

    private static void dueDeal(ShoeTable x, long upper, long lower) {
        due("deal(0)", x.deal(0), upper);
        due("deal(1)", x.deal(1), lower);
    }

    private static void newObject() {
        promise = 1;
        ShoeTable x = new ShoeTable();
        for (int r = 0; r <= 10; r++) {
            due("left(" + r + ")", x.left(r), 0);
        }
        int[] first = {0, 0, 0, 0, 0, NONE, 0, 0, 0, OUTSIDE};
        for (int what = 0; what <= 9; what++) {
            due("told(" + what + ")", x.told(what), first[what]);
        }
        for (int what = 10; what <= 21; what++) {
            due("told(" + what + ")", x.told(what), NONE);
        }
        int[] rules = {21, 17, 0, 1, 1, 1, 3};
        for (int what = 0; what <= 6; what++) {
            due("rule(" + what + ")", x.rule(what, rules[what]), rules[what]);
        }
        for (int r = 1; r <= 10; r++) {
            due("mark(" + r + ")", x.mark(r, 0), 0);
        }
        due("lay()", x.lay(), 0);
        due("best()", x.best(), STATE);
        due("settle()", x.settle(), STATE);
        due("deal(0)", x.deal(0), STATE);
        due("chance(0, 0)", x.chance(0, 0), STATE);
        dueKnown(x, 1, 0, 1);
        due("NONE", ShoeTable.NONE, NONE);
        due("OUTSIDE", ShoeTable.OUTSIDE, OUTSIDE);
        due("STATE", ShoeTable.STATE, STATE);
        due("FULL", ShoeTable.FULL, FULL);
        due("LARGE", ShoeTable.LARGE, LARGE);
        ShoeTable y = new ShoeTable();
        y.shoe(3, 3);
        due("left(3) of another", x.left(3), 0);
    }

    private static void shoe() {
        promise = 2;
        ShoeTable x = new ShoeTable();
        due("shoe(1, 32)", x.shoe(1, 32), 0);
        due("shoe(10, 0)", x.shoe(10, 0), 0);
        due("shoe(1, 5)", x.shoe(1, 5), 32);
        x.take(1, 0);
        x.take(1, 2);
        due("shoe(1, 9)", x.shoe(1, 9), 3);
        due("told(8)", x.told(8), 2);
        due("told(0)", x.told(0), 1);
        due("left(0)", x.left(0), 9);
        x.fresh();
        due("shoe(0, 1)", x.shoe(0, 1), OUTSIDE);
        due("shoe(1, -1)", x.shoe(1, -1), OUTSIDE);
        due("shoe(1, 33)", x.shoe(1, 33), OUTSIDE);
        for (int far : FAR) {
            due("shoe(" + far + ", 1)", x.shoe(far, 1), OUTSIDE);
        }
        due("left(0)", x.left(0), 9);
        due("known after refusals", x.known(1, 0), 9);
    }

    private static void fresh() {
        promise = 3;
        ShoeTable x = new ShoeTable();
        x.shoe(4, 5);
        x.mark(4, 2);
        x.take(4, 0);
        x.take(4, 1);
        x.take(4, 2);
        x.rule(6, 4);
        due("told(6)", x.told(6), 6);
        due("fresh()", x.fresh(), 2);
        due("told(0)", x.told(0), 0);
        due("told(5)", x.told(5), NONE);
        due("told(6)", x.told(6), 0);
        due("told(8)", x.told(8), 0);
        due("left(4)", x.left(4), 2);
        due("mark(4, 1)", x.mark(4, 1), 2);
        due("rule(6, 3)", x.rule(6, 3), 4);
        dueKnown(x, 4, 2, 1);
        hold(x, 10);
        showUp(x, 9);
        x.shoe(4, 0);
        due("settle()", x.settle(), 2);
        x.fresh();
        due("told(7)", x.told(7), 2);
    }

    private static void rule() {
        promise = 4;
        ShoeTable x = new ShoeTable();
        int[] least = {17, 10, 0, 0, 0, 0, 2};
        int[] most = {21, 21, 1, 1, 1, 1, 4};
        int[] first = {21, 17, 0, 1, 1, 1, 3};
        for (int what = 0; what <= 6; what++) {
            due("rule below", x.rule(what, least[what] - 1), OUTSIDE);
            due("rule above", x.rule(what, most[what] + 1), OUTSIDE);
            due("rule least", x.rule(what, least[what]), first[what]);
            due("rule back", x.rule(what, first[what]), least[what]);
            due("rule most", x.rule(what, most[what]), first[what]);
            due("rule back", x.rule(what, first[what]), most[what]);
        }
        due("rule(-1, 1)", x.rule(-1, 1), OUTSIDE);
        due("rule(7, 1)", x.rule(7, 1), OUTSIDE);
        due("rule(MIN, 1)", x.rule(Integer.MIN_VALUE, 1), OUTSIDE);
        due("rule(MAX, 1)", x.rule(Integer.MAX_VALUE, 1), OUTSIDE);
        due("rule(0, MAX)", x.rule(0, Integer.MAX_VALUE), OUTSIDE);
        due("rule(1, 11)", x.rule(1, 11), 17);
        due("rule(0, 10)", x.rule(0, 10), OUTSIDE);
        due("rule(0, 11)", x.rule(0, 11), 21);
        due("rule(1, 12)", x.rule(1, 12), OUTSIDE);
        due("rule(1, 10)", x.rule(1, 10), 11);
    }

    private static void mark() {
        promise = 5;
        ShoeTable x = of(2, 2, 5);
        due("mark(2, 3)", x.mark(2, 3), 0);
        due("mark(2, -3)", x.mark(2, -3), 3);
        due("mark(2, 4)", x.mark(2, 4), OUTSIDE);
        due("mark(2, -4)", x.mark(2, -4), OUTSIDE);
        due("mark(0, 1)", x.mark(0, 1), OUTSIDE);
        for (int far : FAR) {
            due("mark(" + far + ", 1)", x.mark(far, 1), OUTSIDE);
        }
        due("mark(10, 1)", x.mark(10, 1), 0);
        due("mark(2, 1)", x.mark(2, 1), -3);
        x.take(2, 0);
        x.take(2, 1);
        x.take(5, 2);
        due("told(6)", x.told(6), 2);
        x.mark(5, -3);
        due("told(6), marks as they are", x.told(6), -1);
        x.mark(2, 0);
        due("told(6), marks as they are", x.told(6), -3);
    }

    private static void left() {
        promise = 6;
        ShoeTable x = of(1, 10, 10);
        due("left(0)", x.left(0), 3);
        due("left(1)", x.left(1), 1);
        due("left(10)", x.left(10), 2);
        due("left(5)", x.left(5), 0);
        for (int far : FAR) {
            due("left(" + far + ")", x.left(far), OUTSIDE);
        }
    }

    private static void take() {
        promise = 7;
        ShoeTable x = of(1, 1, 1, 1, 1, 1, 1, 1, 1, 1, 1, 1, 1, 1, 1, 7, 8);
        due("take(7, 1)", x.take(7, 1), 0);
        due("told(5)", x.told(5), 7);
        due("take(8, 1)", x.take(8, 1), 0);
        due("told(5), in its place", x.told(5), 8);
        due("lay(), one UP", x.lay(), 1);
        for (int n = 1; n <= 12; n++) {
            due("take(1, 0)", x.take(1, 0), n);
        }
        due("take(1, 0), full", x.take(1, 0), FULL);
        due("left(1), nothing changed", x.left(1), 3);
        due("told(8)", x.told(8), 14);
        due("take(1, 1)", x.take(1, 1), 12);
        due("take(1, 2)", x.take(1, 2), 12);
        due("take(2, 0), none such before full", x.take(2, 0), STATE);
        due("take(2, 3), outside before none such", x.take(2, 3), OUTSIDE);
        due("take(1, -1)", x.take(1, -1), OUTSIDE);
        due("take(0, 0)", x.take(0, 0), OUTSIDE);
        for (int far : FAR) {
            due("take(" + far + ", 0)", x.take(far, 0), OUTSIDE);
        }
        due("left(0)", x.left(0), 1);
    }

    private static long next(long draw) {
        return draw * 6364136223846793005L + 1442695040888963407L;
    }

    private static int place(long draw, int n) {
        return (int) ((draw >>> 33) % n);
    }

    private static void draw() {
        promise = 8;
        ShoeTable x = of(1, 2, 3, 4, 5, 6, 7, 8, 9, 10);
        java.util.List<Integer> left = new java.util.ArrayList<>(java.util.List.of(1, 2, 3, 4, 5, 6, 7, 8, 9, 10));
        long d = 1;
        for (int n = 10; n > 0; n--) {
            due("draw(3)", x.draw(3), OUTSIDE);
            d = next(d);
            due("draw(" + n % 3 + ")", x.draw(n % 3), left.remove(place(d, n)));
            due("told(8)", x.told(8), 11 - n);
        }
        due("draw(0), empty", x.draw(0), STATE);
        due("draw(-1), outside before empty", x.draw(-1), OUTSIDE);
        due("draw(MAX)", x.draw(Integer.MAX_VALUE), OUTSIDE);
        due("cards of THE HAND", x.told(0), 3);
        drawWhenFull();
    }

    private static void drawWhenFull() {
        ShoeTable x = new ShoeTable();
        x.shoe(1, 13);
        x.shoe(2, 13);
        x.shoe(3, 13);
        x.seed(5);
        long d = 5;
        for (int i = 0; i < 12; i++) {
            x.take(1 + i % 3, 0);
        }
        due("draw(0), full", x.draw(0), FULL);
        due("draw(0), full", x.draw(0), FULL);
        for (int i = 0; i < 3; i++) {
            d = next(d);
            int at = place(d, 27 - i);
            int ones = x.left(1);
            int twos = x.left(2);
            due("draw(1), goes on from where it was", x.draw(1), at < ones ? 1 : at < ones + twos ? 2 : 3);
        }
    }

    private static void seed() {
        promise = 9;
        for (int v : new int[] {0, 1, -1, 7, Integer.MIN_VALUE, Integer.MAX_VALUE}) {
            ShoeTable x = of(1, 2, 3, 4, 5, 6, 7, 8, 9, 10);
            due("seed(" + v + ")", x.seed(v), 1);
            due("draw(2)", x.draw(2), 1 + place(next(v), 10));
        }
    }

    private static void lay() {
        promise = 10;
        ShoeTable x = of(2, 3, 4, 5);
        due("lay()", x.lay(), 0);
        x.take(2, 0);
        x.take(3, 0);
        due("lay(), no UP", x.lay(), 2);
        x.take(4, 0);
        x.take(5, 1);
        due("lay()", x.lay(), 2);
        due("told(0)", x.told(0), 0);
        due("told(5)", x.told(5), NONE);
        due("told(10)", x.told(10), NONE);
        due("left(0), they do not come back", x.left(0), 0);
        due("told(8)", x.told(8), 4);
    }

    private static void told() {
        promise = 11;
        ShoeTable x = new ShoeTable();
        hold(x, 1);
        due("value of 1", x.told(1), 11);
        due("soft", x.told(2), 1);
        hold(x, 10);
        due("value of 1, 10", x.told(1), 21);
        due("soft", x.told(2), 1);
        due("natural", x.told(3), 1);
        due("bust", x.told(4), 0);
        x.rule(0, 20);
        due("value of 1, 10 below 20", x.told(1), 11);
        due("soft", x.told(2), 0);
        due("natural", x.told(3), 0);
        x.rule(0, 21);
        hold(x, 1);
        due("value of 1, 10, 1", x.told(1), 12);
        due("natural of three", x.told(3), 0);
        hold(x, 9);
        due("value 21", x.told(1), 21);
        due("natural of four", x.told(3), 0);
        due("bust", x.told(4), 0);
        hold(x, 1);
        due("value 22", x.told(1), 22);
        due("bust", x.told(4), 1);
        int[] cards = {1, 10, 1, 9, 1, NONE, NONE, NONE, NONE, NONE, NONE, NONE};
        for (int i = 0; i < 12; i++) {
            due("told(" + (10 + i) + ")", x.told(10 + i), cards[i]);
        }
        due("told(9)", x.told(9), OUTSIDE);
        due("told(22)", x.told(22), OUTSIDE);
        due("told(-1)", x.told(-1), OUTSIDE);
        due("told(MIN)", x.told(Integer.MIN_VALUE), OUTSIDE);
        due("told(MAX)", x.told(Integer.MAX_VALUE), OUTSIDE);
        ShoeTable y = new ShoeTable();
        y.rule(1, 10);
        y.rule(0, 11);
        hold(y, 5, 6);
        due("natural without an ace", y.told(3), 1);
    }

    private static void dueSettle(String how, ShoeTable x, int halves, int leftThen) {
        due(how, x.settle(), halves);
        due(how + ": bank", x.told(7), halves);
        due(how + ": left", x.left(0), leftThen);
        due(how + ": hand", x.told(0), 0);
        due(how + ": UP", x.told(5), NONE);
    }

    private static void settle() {
        promise = 12;
        dueSettle("20 against 10, 10", table(cards(10, 10), 10, 10, 10), 0, 1);
        dueSettle("19 against 10, 10", table(cards(10, 9), 10, 10, 10), -2, 1);
        dueSettle("12 against 6, 10, 10", table(cards(10, 2), 6, 10, 10), 2, 0);
        dueSettle("natural against 20", table(cards(1, 10), 10, 10), 3, 0);
        dueSettle("natural against 21", table(cards(1, 10), 10, 1), 0, 0);
        dueSettle("21 of three against 20", table(cards(1, 5, 5), 10, 10), 2, 0);
        dueSettle("bust: the house does not draw", table(cards(10, 10, 10), 10, 10, 10), -2, 2);
        dueSettle("no cards for the house", table(cards(3), 2), 2, 0);
        dueSettle("soft 17 stands", table(cards(10, 7), 6, 1, 1, 1), 0, 2);
        ShoeTable x = table(cards(10, 7), 6, 1, 1, 1);
        x.rule(2, 1);
        due("soft 17 draws when SOFTLY", x.settle(), -2);
        ShoeTable y = table(cards(10, 7), 10, 7);
        y.rule(2, 1);
        due("hard 17 stands when SOFTLY", y.settle(), 0);
        ShoeTable z = table(cards(1, 10), 10, 10);
        z.rule(6, 4);
        due("natural, BONUS 4", z.settle(), 4);
        hold(z, 2);
        showUp(z, 3);
        due("second", z.settle(), -2);
        due("bank adds up", z.told(7), 2);
        due("settle(), empty", z.settle(), STATE);
        hold(z, 2);
        due("settle(), no UP", z.settle(), STATE);
        z.lay();
        showUp(z, 2);
        due("settle(), no HAND", z.settle(), STATE);
        due("told(5), nothing changed", z.told(5), 2);
        settleCounts();
    }

    private static void settleCounts() {
        ShoeTable x = of(9, 9, 5, 5, 5);
        x.mark(5, 2);
        x.take(9, 0);
        x.take(9, 1);
        due("house 9, 5, 5 = 19 against 9", x.settle(), -2);
        due("told(8)", x.told(8), 4);
        due("told(6)", x.told(6), 4);
    }

    private static void dueThere(String how, ShoeTable x, int... due) {
        for (int act = 0; act <= 4; act++) {
            due("there(" + act + ") of " + how, x.there(act), due[act]);
        }
    }

    private static void there() {
        promise = 13;
        dueThere("nothing", new ShoeTable(), 0, 0, 0, 0, 0);
        dueThere("no UP", of(1, 2, 3), 0, 0, 0, 0, 0);
        dueThere("one card", table(cards(5), 5, 2, 2), 1, 1, 0, 0, 0);
        dueThere("two cards", table(cards(5, 6), 5, 2, 2), 1, 1, 1, 0, 1);
        dueThere("a pair", table(cards(5, 5), 5, 2, 2), 1, 1, 1, 1, 1);
        dueThere("a pair, one card left", table(cards(5, 5), 5, 2), 1, 1, 1, 0, 1);
        dueThere("a pair, no card left", table(cards(5, 5), 5), 1, 0, 0, 0, 1);
        dueThere("three cards", table(cards(5, 5, 5), 5, 2, 2), 1, 1, 0, 0, 0);
        dueThere("bust", table(cards(10, 10, 2), 5, 2, 2), 0, 0, 0, 0, 0);
        dueThere("twelve cards", table(cards(1, 1, 1, 1, 1, 1, 1, 1, 1, 1, 1, 1), 5, 2, 2), 1, 0, 0, 0, 0);
        dueThere("eleven cards", table(cards(1, 1, 1, 1, 1, 1, 1, 1, 1, 1, 1), 5, 2, 2), 1, 1, 0, 0, 0);
        ShoeTable x = table(cards(5, 5), 5, 2, 2);
        x.rule(3, 0);
        dueThere("no doubles", x, 1, 1, 0, 1, 1);
        x.rule(4, 0);
        dueThere("no splits", x, 1, 1, 0, 0, 1);
        x.rule(5, 0);
        dueThere("no giving up", x, 1, 1, 0, 0, 0);
        x.shoe(9, 32);
        dueThere("a large shoe", x, 1, 1, 0, 0, 0);
        due("there(-1)", x.there(-1), OUTSIDE);
        due("there(5)", x.there(5), OUTSIDE);
        due("there(MIN)", x.there(Integer.MIN_VALUE), OUTSIDE);
        due("there(MAX)", x.there(Integer.MAX_VALUE), OUTSIDE);
    }

    private static void worthOfStand() {
        promise = 14;
        dueWorth(table(cards(10, 6), 10, 10, 5), 0, 0, 1);
        dueWorth(table(cards(10, 8), 10, 10, 9, 8, 7), 0, -1, 2);
        dueWorth(table(cards(1, 10), 10, 10, 1), 0, 3, 2);
        dueWorth(table(cards(1, 4, 6), 10, 10, 1), 0, 1, 1);
        dueWorth(table(cards(3), 2), 0, 2, 1);
        dueWorth(table(cards(2), 1), 0, -2, 1);
    }

    private static void worthOfDraw() {
        promise = 14;
        dueWorth(table(cards(10, 6), 10, 10, 5), 1, 0, 1);
        // 10 comes to 20 against 10, 5; 5 comes to 15, which stands and loses to 20 or draws and is bust.
        dueWorth(table(cards(4, 6), 10, 10, 5), 1, 0, 1);
        // A single card that draws to TARGET has two cards: a natural.
        dueWorth(table(cards(10), 10, 1), 1, 3, 1);
        dueWorth(table(cards(4, 6), 10, 1), 1, 2, 1);
        // Standing on a drawn 21 beats drawing on; two cards of an ace and a ten again a natural.
        dueWorth(table(cards(1), 9, 10, 10), 1, 3, 1);
        ShoeTable x = table(cards(1, 1, 1, 1, 1, 1, 1, 1, 1, 1, 1), 10, 1, 1);
        // The place of the twelfth card is there, and places are not looked at behind it.
        dueWorth(x, 1, 2, 1);
    }

    private static void worthOfDoubleSplitAndGiveUp() {
        promise = 14;
        dueWorth(table(cards(10, 6), 10, 10, 5), 2, 0, 1);
        dueWorth(table(cards(4, 6), 10, 1), 2, 4, 1);
        dueWorth(table(cards(10, 9), 10, 10), 2, -4, 1);
        // 10, 10 then 3: both 18 against 13; 10 and 3 in either order: 18 and 11 against 20.
        dueWorth(table(cards(8, 8), 10, 10, 10, 3), 3, -4, 3);
        // No natural by a split: 21 twice against 6, 10 = 16.
        dueWorth(table(cards(1, 1), 6, 10, 10, 10), 3, 4, 1);
        dueWorth(table(cards(10, 10), 7, 1, 1, 10), 3, 4, 1);
        dueWorth(table(cards(10, 6), 10, 10, 5), 4, -1, 1);
        ShoeTable x = table(cards(5, 5), 10, 10, 10, 1, 1);
        x.rule(1, 10);
        x.rule(0, 12);
        // Of the first two cards: 10, 10 both bust; 10, 1 one bust, 6 loses to 10; 1, 1 both lose: always -4.
        dueWorth(x, 3, -4, 1);
    }

    private static void worthRefused() {
        promise = 14;
        ShoeTable x = table(cards(10, 6), 10, 10, 5);
        due("worth(-1, 0)", x.worth(-1, 0), OUTSIDE);
        due("worth(5, 0)", x.worth(5, 0), OUTSIDE);
        due("worth(0, -1)", x.worth(0, -1), OUTSIDE);
        due("worth(0, 2)", x.worth(0, 2), OUTSIDE);
        due("worth(3, 0), no pair", x.worth(3, 0), STATE);
        due("worth(3, 2), outside before it", x.worth(3, 2), OUTSIDE);
        x.shoe(9, 11);
        due("left(0)", x.left(0), 13);
        for (int act : new int[] {0, 1, 2, 4}) {
            due("worth(" + act + ", 1)", x.worth(act, 1), LARGE);
        }
        due("worth(3, 0), not there before large", x.worth(3, 0), STATE);
        x.shoe(9, 10);
        due("worth(4, 0) of 12 cards", x.worth(4, 0), -1);
        due("worth(0, 0) of 12 cards", x.worth(0, 0) == LARGE ? 1 : 0, 0);
    }

    private static void best() {
        promise = 15;
        due("all are like 0: the least", table(cards(10, 6), 10, 10, 5).best(), 0);
        due("DRAW and DOUBLE", table(cards(4, 6), 10, 1).best(), 2);
        due("GIVE UP", table(cards(10, 6), 10, 10).best(), 4);
        due("STAND", table(cards(10, 10), 10).best(), 0);
        due("DRAW", table(cards(2, 2, 2), 10, 10).best(), 1);
        due("SPLIT", table(cards(1, 1), 7, 10, 10, 10).best(), 3);
        due("DOUBLE and SPLIT are like", table(cards(1, 1), 6, 10, 10, 10).best(), 2);
        due("none", new ShoeTable().best(), STATE);
        due("bust", table(cards(10, 10, 10), 5, 5).best(), STATE);
        due("no UP", of(1, 2, 3).best(), STATE);
        ShoeTable x = table(cards(4, 6), 10, 1);
        x.shoe(9, 12);
        due("large", x.best(), LARGE);
        x.lay();
        due("none before large", x.best(), STATE);
    }

    private static void chance() {
        promise = 16;
        ShoeTable x = of(10, 5);
        due("no UP", x.chance(17, 0), STATE);
        due("chance(1, 0), outside before it", x.chance(1, 0), OUTSIDE);
        showUp(x, 10);
        dueChance(x, 20, 1, 2);
        dueChance(x, 0, 1, 2);
        dueChance(x, 15, 0, 1);
        dueChance(x, 2, 0, 1);
        ShoeTable y = of(1, 1, 10);
        showUp(y, 6);
        // 1: soft 17 stands, two of three times; 10: 16, then 17.
        dueChance(y, 17, 1, 1);
        y.rule(2, 1);
        // 10, 1 and 1, 10: 17 at last, hard; 1, 1: 18.
        dueChance(y, 17, 2, 3);
        dueChance(y, 18, 1, 3);
        ShoeTable z = new ShoeTable();
        showUp(z, 2);
        dueChance(z, 2, 1, 1);
        showUp(z, 1);
        dueChance(z, 11, 1, 1);
        dueChance(z, 21, 0, 1);
        due("chance(1, 0)", z.chance(1, 0), OUTSIDE);
        due("chance(-1, 0)", z.chance(-1, 0), OUTSIDE);
        due("chance(22, 0)", z.chance(22, 0), OUTSIDE);
        due("chance(MIN, 0)", z.chance(Integer.MIN_VALUE, 0), OUTSIDE);
        due("chance(2, -1)", z.chance(2, -1), OUTSIDE);
        due("chance(2, 2)", z.chance(2, 2), OUTSIDE);
        z.shoe(4, 13);
        due("large", z.chance(2, 0), LARGE);
        z.shoe(4, 12);
        // 11, 15, 19.
        dueChance(z, 19, 1, 1);
    }

    private static void deal() {
        promise = 17;
        // 20 against 11, or a natural against 10.
        dueDeal(of(10, 10, 1), 8, 3);
        due("deal(-1)", of(10, 10, 1).deal(-1), OUTSIDE);
        due("deal(2)", of(1).deal(2), OUTSIDE);
        due("two cards", of(10, 10).deal(0), STATE);
        due("nine cards", of(2, 2, 2, 2, 2, 2, 2, 2, 2).deal(0), LARGE);
        // 20 against 20.
        due("eight cards", of(10, 10, 10, 10, 10, 10, 10, 10).deal(0), 0);
        due("eight cards", of(10, 10, 10, 10, 10, 10, 10, 10).deal(1), 1);
        ShoeTable x = of(10, 10, 10);
        x.rule(1, 10);
        x.rule(0, 19);
        dueDeal(x, -2, 1);
        x.rule(0, 20);
        // A natural now: 20 against 10.
        dueDeal(x, 3, 1);
        ShoeTable y = of(10, 10, 1);
        hold(y, 2, 3);
        showUp(y, 4);
        dueDeal(y, 8, 3);
        due("the hand is as it was", y.told(1), 5);
        due("UP is as it was", y.told(5), 4);
        due("the shoe is as it was", y.left(0), 3);
    }

    private static void moved() {
        promise = 18;
        ShoeTable x = table(cards(10, 6), 10, 10, 5);
        // As it is 0; with 10 alone, giving up: -1; with 5 alone, doubling: 4.
        dueMoved(x, 5, -1, 1);
        dueMoved(x, 10, 4, 1);
        due("the shoe is as it was", x.left(0), 2);
        due("moved(9, 0), no such card", x.moved(9, 0), STATE);
        due("moved(0, 0)", x.moved(0, 0), OUTSIDE);
        due("moved(11, 0)", x.moved(11, 0), OUTSIDE);
        due("moved(MIN, 0)", x.moved(Integer.MIN_VALUE, 0), OUTSIDE);
        due("moved(9, 2), outside before none", x.moved(9, 2), OUTSIDE);
        due("moved(5, -1)", x.moved(5, -1), OUTSIDE);
        x.shoe(9, 11);
        due("large", x.moved(5, 0), LARGE);
        due("none such before large", x.moved(1, 0), STATE);
        x.lay();
        due("no act before large", x.moved(5, 0), STATE);
        ShoeTable y = table(cards(2, 2, 2), 10, 10);
        // The last card goes: 6 stands against 10 with none to draw, and lost before as well.
        due("as it is", y.worth(1, 0), 2);
        dueMoved(y, 10, -4, 1);
    }

    private static void known() {
        promise = 19;
        ShoeTable x = of(2, 2, 3, 3, 10, 10, 10, 10);
        x.mark(2, 1);
        x.mark(3, 1);
        x.mark(10, -1);
        dueKnown(x, 2, 2, 1);
        x.take(2, 2);
        // One low card went: a 2 or a 3.
        dueKnown(x, 2, 3, 2);
        dueKnown(x, 3, 3, 2);
        dueKnown(x, 10, 4, 1);
        dueKnown(x, 7, 0, 1);
        x.take(10, 0);
        // One low card and one ten.
        dueKnown(x, 10, 3, 1);
        x.mark(10, 1);
        // Marks as they are: any two of eight cards now.
        dueKnown(x, 10, 3, 1);
        dueKnown(x, 2, 3, 2);
        x.mark(10, 0);
        x.mark(3, 0);
        // A 2 and one of six others.
        dueKnown(x, 2, 1, 1);
        dueKnown(x, 3, 5, 3);
        dueKnown(x, 10, 10, 3);
        due("known(0, 0)", x.known(0, 0), OUTSIDE);
        due("known(11, 0)", x.known(11, 0), OUTSIDE);
        due("known(2, 2)", x.known(2, 2), OUTSIDE);
        due("known(2, -1)", x.known(2, -1), OUTSIDE);
        x.shoe(5, 0);
        due("shoe() was told", x.known(2, 0), STATE);
        due("known(0, 0), outside before it", x.known(0, 0), OUTSIDE);
        x.fresh();
        dueKnown(x, 2, 1, 1);
        knownWhenLarge();
    }

    private static void knownWhenLarge() {
        ShoeTable x = new ShoeTable();
        x.shoe(1, 30);
        x.shoe(2, 31);
        due("shoe() was told before large", x.known(1, 0), STATE);
        x.fresh();
        due("61 cards", x.known(1, 0), LARGE);
        due("61 cards, none of the rank", x.known(9, 0), LARGE);
        x.take(1, 2);
        due("61 cards then", x.known(1, 0), LARGE);
        x.fresh();
        for (int i = 0; i < 8; i++) {
            x.take(2, 2);
        }
        // Eight of 60 at random leave 52/60 of each rank.
        dueKnown(x, 1, 29 * 52 / 4, 15);
        x.mark(2, 3);
        dueKnown(x, 1, 29, 1);
        dueKnown(x, 2, 23, 1);
        x.mark(2, -3);
        dueKnown(x, 2, 23, 1);
        x.take(2, 2);
        due("nine left it", x.known(2, 0), LARGE);
    }
}
