import java.math.BigInteger;

/** Boundary cases of the table: promises 7 to 12, and what the terms say of hands and of THE DRAW. */
public final class TableBoundsTest extends Check {
    private static final BigInteger WRAP = BigInteger.TWO.pow(64);

    public static void main(String[] args) {
        whereTo();
        noneSuch();
        handIsFull();
        takeRefusedInOrder();
        takeToEachPlace();
        upIsReplaced();
        drawRefusedInOrder();
        drawFromAnEmptyShoe();
        drawWhenFull();
        drawGoesOnOnlyIfDrawn();
        drawWraps();
        drawByRisingRanks();
        drawFromOneAndFromAll();
        anySeed();
        seedKeepsTheRest();
        layCounts();
        layPutsNothingBack();
        valueOfAnAce();
        bustAboveTarget();
        naturalIsTwoCards();
        whatIsTold();
        cardsOfTheHand();
        toldAsARefusal();
        countOfWhatLeft();
        countByMarksAsTheyAre();
        toldAsksOnly();
        settleNeedsBoth();
        houseDrawsByTheDraw();
        houseWithoutCards();
        houseBelowStands();
        houseSoftly();
        houseStandsOnTarget();
        houseIsBust();
        settledByTheEnd();
        settledBust();
        settledNatural();
        settleLaysAside();
        bankAddsUp();
        theLastCall();
        end();
    }

    // ---- promise 7

    private static ShoeTable fullHand() {
        ShoeTable x = table(times(12, 2), 9, 2, 3, 3);
        x.seed(4);
        return x;
    }

    private static void whereTo() {
        says("to = 0 to THE HAND, 1 to UP (in place of the one there), 2 aside: how many THE HAND has.");
        bound("take(1, v)", () -> of(1, 2, 3), (x, v) -> x.take(1, v), 0, 2);
        bound("draw(v)", () -> of(1, 2, 3), (x, v) -> x.draw(v), 0, 2);
        bound("draw(v)", TableBoundsTest::fullHand, (x, v) -> x.draw(v), 0, 2);
    }

    private static void noneSuch() {
        says("OUTSIDE; STATE: there is none such; FULL: THE HAND is.");
        for (int to = 0; to <= 2; to++) {
            int t = to;
            refused("take(4, " + t + ") of none", () -> of(3, 3, 5), x -> x.take(4, t), STATE);
            ShoeTable x = of(3, 4, 5);
            x.take(4, t);
            due("take(4, " + t + ") of none more", x.take(4, t), STATE);
            due("left(0)", x.left(0), 2);
            due("told(8)", x.told(8), 1);
        }
    }

    private static void handIsFull() {
        says("THE HAND is a row of cards of the player (12 at most)");
        ShoeTable x = new ShoeTable();
        x.shoe(1, 14);
        for (int n = 1; n <= 12; n++) {
            due("take(1, 0)", x.take(1, 0), n);
        }
        due("take(1, 0) of the thirteenth", x.take(1, 0), FULL);
        due("told(0)", x.told(0), 12);
        due("left(1)", x.left(1), 2);
        says("OUTSIDE; STATE: there is none such; FULL: THE HAND is.");
        refused("take(3, 0)", TableBoundsTest::fullHand, t -> t.take(3, 0), FULL);
        due("take(3, 1), UP has its own place", fullHand().take(3, 1), 12);
        due("take(3, 2), nor is aside full", fullHand().take(3, 2), 12);
    }

    private static void takeRefusedInOrder() {
        says("Calls answer, the first of these that fits: OUTSIDE (a number out of its bounds), STATE (as told), "
            + "FULL, LARGE; then nothing changes.");
        refused("take(11, 0), full", TableBoundsTest::fullHand, x -> x.take(11, 0), OUTSIDE);
        refused("take(0, 0), full", TableBoundsTest::fullHand, x -> x.take(0, 0), OUTSIDE);
        refused("take(4, 3), none such", TableBoundsTest::fullHand, x -> x.take(4, 3), OUTSIDE);
        refused("take(4, -1), none such", TableBoundsTest::fullHand, x -> x.take(4, -1), OUTSIDE);
        refused("take(4, 0), none such, and full", TableBoundsTest::fullHand, x -> x.take(4, 0), STATE);
    }

    private static void takeToEachPlace() {
        says("A card of a RANK leaves THE SHOE: to = 0 to THE HAND, 1 to UP (in place of the one there), 2 aside");
        for (int r = 1; r <= 10; r += 9) {
            ShoeTable x = of(r, r, r);
            due("take(" + r + ", 2)", x.take(r, 2), 0);
            due("told(0)", x.told(0), 0);
            due("told(5)", x.told(5), NONE);
            due("take(" + r + ", 1)", x.take(r, 1), 0);
            due("told(0)", x.told(0), 0);
            due("told(5)", x.told(5), r);
            due("take(" + r + ", 0), the last one", x.take(r, 0), 1);
            due("told(10)", x.told(10), r);
            due("left(0)", x.left(0), 0);
            due("told(8)", x.told(8), 3);
        }
    }

    private static void upIsReplaced() {
        says("1 to UP (in place of the one there)");
        ShoeTable x = of(7, 8, 9, 9);
        x.take(7, 1);
        x.take(8, 1);
        due("told(5)", x.told(5), 8);
        due("told(8), both left", x.told(8), 2);
        due("left(7), it does not come back", x.left(7), 0);
        due("draw(1)", x.draw(1), 9);
        due("told(5)", x.told(5), 9);
        due("lay(), one UP", x.lay(), 1);
    }

    // ---- promise 8

    private static ShoeTable drawnOut() {
        ShoeTable x = table(times(12, 2), 9);
        x.seed(4);
        return x;
    }

    private static void drawRefusedInOrder() {
        says("Calls answer, the first of these that fits: OUTSIDE (a number out of its bounds), STATE (as told), "
            + "FULL, LARGE; then nothing changes.");
        refused("draw(3), empty and full", TableBoundsTest::drawnOut, x -> x.draw(3), OUTSIDE);
        refused("draw(-1), empty and full", TableBoundsTest::drawnOut, x -> x.draw(-1), OUTSIDE);
        refused("draw(0), empty and full", TableBoundsTest::drawnOut, x -> x.draw(0), STATE);
        refused("draw(3), full", TableBoundsTest::fullHand, x -> x.draw(3), OUTSIDE);
    }

    private static void drawFromAnEmptyShoe() {
        says("OUTSIDE; STATE: THE SHOE is empty; FULL.");
        for (int to = 0; to <= 2; to++) {
            int t = to;
            refused("draw(" + t + ")", () -> table(cards(3), 4), x -> x.draw(t), STATE);
            ShoeTable x = of(6);
            due("draw(" + t + ") of one", x.draw(t), 6);
            due("draw(" + t + ") of none", x.draw(t), STATE);
        }
    }

    private static void drawWhenFull() {
        says("OUTSIDE; STATE: THE SHOE is empty; FULL.");
        refused("draw(0)", TableBoundsTest::fullHand, x -> x.draw(0), FULL);
        ShoeTable x = fullHand();
        holds("draw(1) is not full", x.draw(1) > 0);
        holds("draw(2) is not full", x.draw(2) > 0);
        due("told(0)", x.told(0), 12);
        ShoeTable y = table(times(11, 2), 9, 3, 3);
        due("draw(0) of the twelfth", y.draw(0), 3);
        due("told(21)", y.told(21), 3);
        due("draw(0) of the thirteenth", y.draw(0), FULL);
    }

    private static void drawGoesOnOnlyIfDrawn() {
        says("(THE DRAW goes on only if it is drawn.)");
        ShoeTable x = new ShoeTable();
        x.seed(9);
        due("draw(0), empty", x.draw(0), STATE);
        due("draw(5)", x.draw(5), OUTSIDE);
        x.shoe(2, 32);
        for (int i = 0; i < 12; i++) {
            x.take(2, 0);
        }
        due("draw(0), full", x.draw(0), FULL);
        for (int r = 1; r <= 10; r++) {
            x.shoe(r, 1);
        }
        dueDraws(x, 9, 1, 2, 3, 4, 5, 6, 7, 8, 9, 10);
    }

    /** The cards that come by draw(2) until there are none, by a draw that is reckoned without wrapping. */
    private static void dueDraws(ShoeTable x, long seed, int... risingCards) {
        java.util.List<Integer> left = new java.util.ArrayList<>();
        for (int c : risingCards) {
            left.add(c);
        }
        BigInteger draw = BigInteger.valueOf(seed);
        while (!left.isEmpty()) {
            draw = after(draw);
            due("draw(2), seed " + seed, x.draw(2), left.remove(place(draw, left.size())));
        }
        due("draw(2) of none", x.draw(2), STATE);
    }

    private static BigInteger after(BigInteger draw) {
        return draw.multiply(new BigInteger("6364136223846793005"))
            .add(new BigInteger("1442695040888963407")).mod(WRAP);
    }

    /** Of a draw from 0 to below 2 to the 64th. */
    private static int place(BigInteger draw, int n) {
        return draw.shiftRight(33).mod(BigInteger.valueOf(n)).intValueExact();
    }

    private static void drawWraps() {
        says("it becomes itself times 6364136223846793005 and 1442695040888963407 (wrapping)");
        int[] seeds = {0, 1, 2, -1, -2, 7, 99, 1000003, -1000003, Integer.MAX_VALUE, Integer.MIN_VALUE};
        for (int seed : seeds) {
            ShoeTable x = of(1, 1, 2, 3, 4, 4, 4, 5, 6, 7, 8, 9, 10, 10);
            x.seed(seed);
            dueDraws(x, seed, 1, 1, 2, 3, 4, 4, 4, 5, 6, 7, 8, 9, 10, 10);
        }
    }

    private static void drawByRisingRanks() {
        says("with n cards in THE SHOE, by rising RANKS, the card at place (THE DRAW >>> 33) modulo n is drawn.");
        boolean[] seen = new boolean[6];
        for (int seed = 0; seed < 60_000; seed += 1000) {
            ShoeTable x = of(10, 4, 4, 1, 1, 1);
            x.seed(seed);
            int place = place(after(BigInteger.valueOf(seed)), 6);
            seen[place] = true;
            due("draw(2) at place " + place, x.draw(2), place <= 2 ? 1 : place <= 4 ? 4 : 10);
        }
        for (int place = 0; place < 6; place++) {
            holds("place " + place + " came", seen[place]);
        }
    }

    private static void drawFromOneAndFromAll() {
        says("with n cards in THE SHOE, by rising RANKS, the card at place (THE DRAW >>> 33) modulo n is drawn.");
        for (int r = 1; r <= 10; r++) {
            due("draw(2) of one card", of(r).draw(2), r);
        }
        ShoeTable x = new ShoeTable();
        for (int r = 1; r <= 10; r++) {
            x.shoe(r, 32);
        }
        for (int seed = -30; seed < 30; seed++) {
            x.seed(seed);
            int rank = 1 + place(after(BigInteger.valueOf(seed)), 320) / 32;
            due("draw(2) of 320 cards", x.draw(2), rank);
            x.shoe(rank, 32);
        }
    }

    // ---- promise 9

    private static void anySeed() {
        says("THE DRAW becomes a number. Always 1.");
        for (int v : new int[] {Integer.MIN_VALUE, -1002, -1001, -1, 0, 1, Integer.MAX_VALUE}) {
            due("seed(" + v + ") of a new one", new ShoeTable().seed(v), 1);
            ShoeTable x = busy();
            due("seed(" + v + ")", x.seed(v), 1);
            due("seed(" + v + ") again", x.seed(v), 1);
            ShoeTable y = of(1, 2, 3, 4, 5, 6, 7);
            y.draw(2);
            y.draw(2);
            y.shoe(1, 1);
            for (int r = 2; r <= 7; r++) {
                y.shoe(r, 1);
            }
            y.seed(v);
            dueDraws(y, v, 1, 2, 3, 4, 5, 6, 7);
        }
    }

    private static void seedKeepsTheRest() {
        says("THE DRAW becomes a number. Always 1.");
        ShoeTable x = busy();
        ShoeTable y = busy();
        x.seed(0);
        java.util.List<String> got = seen(x);
        java.util.List<String> want = seen(y);
        for (int i = 0; i < got.size() && !got.get(i).startsWith("draw"); i++) {
            holds(got.get(i) + " is " + want.get(i), got.get(i).equals(want.get(i)));
        }
    }

    // ---- promise 10

    private static void layCounts() {
        says("THE HAND and UP are laid aside: how many cards they were.");
        due("lay() of none", of(1, 2).lay(), 0);
        ShoeTable x = of(2, 3, 4);
        x.take(4, 1);
        due("lay() of UP", x.lay(), 1);
        x.take(3, 0);
        due("lay() of a card", x.lay(), 1);
        due("lay() again", x.lay(), 0);
        due("lay() of twelve", table(times(12, 1), 5, 1).lay(), 13);
        due("lay() of a hand that is bust", table(cards(10, 10, 10), 5, 1).lay(), 4);
    }

    private static void layPutsNothingBack() {
        says("THE HAND and UP are laid aside: how many cards they were.");
        ShoeTable x = busy();
        ShoeTable y = busy();
        due("lay()", x.lay(), 3);
        due("told(0)", x.told(0), 0);
        due("told(5)", x.told(5), NONE);
        due("told(10)", x.told(10), NONE);
        for (int what = 6; what <= 8; what++) {
            due("told(" + what + ")", x.told(what), y.told(what));
        }
        for (int r = 0; r <= 10; r++) {
            due("left(" + r + ")", x.left(r), y.left(r));
        }
        due("draw(2)", x.draw(2), y.draw(2));
    }

    // ---- promise 11

    private static void dueHand(int target, int[] hand, int value, int soft, int natural, int bust) {
        ShoeTable x = new ShoeTable();
        hold(x, hand);
        aim(x, target, 10);
        String of = java.util.Arrays.toString(hand) + ", TARGET " + target;
        due("told(1) of " + of, x.told(1), value);
        due("told(2) of " + of, x.told(2), soft);
        due("told(3) of " + of, x.told(3), natural);
        due("told(4) of " + of, x.told(4), bust);
    }

    private static void valueOfAnAce() {
        says("10 more, if a 1 is among them, and it is not above TARGET then (they are SOFT then).");
        dueHand(21, cards(), 0, 0, 0, 0);
        dueHand(21, cards(1), 11, 1, 0, 0);
        dueHand(21, cards(1, 1), 12, 1, 0, 0);
        dueHand(21, cards(5, 1, 4), 20, 1, 0, 0);
        dueHand(21, cards(5, 5, 1), 21, 1, 0, 0);
        dueHand(21, cards(5, 1, 6), 12, 0, 0, 0);
        dueHand(21, cards(2, 9), 11, 0, 0, 0);
        dueHand(11, cards(1), 11, 1, 0, 0);
        dueHand(11, cards(1, 1), 2, 0, 0, 0);
        dueHand(12, cards(1, 1), 12, 1, 1, 0);
        dueHand(12, cards(1, 1, 1), 3, 0, 0, 0);
        dueHand(20, cards(1, 10), 11, 0, 0, 0);
        dueHand(20, cards(1, 9), 20, 1, 1, 0);
        dueHand(19, cards(1, 9), 10, 0, 0, 0);
        dueHand(21, times(11, 1), 21, 1, 0, 0);
        dueHand(21, times(12, 1), 12, 0, 0, 0);
    }

    private static void bustAboveTarget() {
        says("BUST: VALUE above TARGET.");
        for (int target = 12; target <= 19; target++) {
            dueHand(target, cards(5, target - 11, 5), target - 1, 0, 0, 0);
            dueHand(target, cards(5, target - 10, 5), target, 0, 0, 0);
            dueHand(target, cards(5, target - 9, 5), target + 1, 0, 0, 1);
        }
        dueHand(21, cards(10, 10), 20, 0, 0, 0);
        dueHand(21, cards(10, 10, 1), 21, 0, 0, 0);
        dueHand(21, cards(10, 10, 2), 22, 0, 0, 1);
        dueHand(21, cards(10, 10, 1, 1), 22, 0, 0, 1);
        dueHand(11, cards(10, 1), 11, 0, 1, 0);
        dueHand(11, cards(10, 2), 12, 0, 0, 1);
        dueHand(21, times(12, 10), 120, 0, 0, 1);
    }

    private static void naturalIsTwoCards() {
        says("A NATURAL: THE HAND has two cards, of VALUE TARGET, and did not come by SPLIT.");
        dueHand(21, cards(10, 1), 21, 1, 1, 0);
        dueHand(21, cards(1, 10), 21, 1, 1, 0);
        dueHand(21, cards(9, 1), 20, 1, 0, 0);
        dueHand(21, cards(10, 10), 20, 0, 0, 0);
        dueHand(20, cards(10, 10), 20, 0, 1, 0);
        dueHand(19, cards(10, 10), 20, 0, 0, 1);
        dueHand(21, cards(7, 7, 7), 21, 0, 0, 0);
        dueHand(21, cards(1, 5, 5), 21, 1, 0, 0);
        dueHand(11, cards(1), 11, 1, 0, 0);
        dueHand(11, cards(5, 6), 11, 0, 1, 0);
        dueHand(12, cards(5, 6), 11, 0, 0, 0);
    }

    private static void whatIsTold() {
        says("10 to 21 the cards of THE HAND (NONE). OUTSIDE.");
        bound("told(v)", () -> table(times(12, 3), 4, 5), (x, v) -> x.told(v), 10, 21);
        bound("told(v)", Tables::busy, (x, v) -> x.told(v), 0, 8);
        outside("told(v)", Tables::busy, (x, v) -> x.told(v), 9);
        outside("told(v) of a new one", ShoeTable::new, (x, v) -> x.told(v), 9);
        outside("told(v) of a new one", ShoeTable::new, (x, v) -> x.told(v), 22);
    }

    private static void cardsOfTheHand() {
        says("10 to 21 the cards of THE HAND (NONE). OUTSIDE.");
        ShoeTable x = new ShoeTable();
        for (int n = 0; n <= 12; n++) {
            for (int i = 0; i < 12; i++) {
                due("told(" + (10 + i) + ") of " + n, x.told(10 + i), i < n ? 1 + i % 10 : NONE);
            }
            due("told(0)", x.told(0), n);
            hold(x, 1 + n % 10);
        }
        x.lay();
        due("told(10) when laid aside", x.told(10), NONE);
        due("told(21) when laid aside", x.told(21), NONE);
    }

    private static void toldAsARefusal() {
        says("(What is told may be as a refusal is.)");
        ShoeTable one = of(5);
        one.mark(5, -1);
        one.take(5, 2);
        due("told(6) that is like NONE", one.told(6), NONE);
        ShoeTable x = new ShoeTable();
        x.rule(6, 3);
        // A natural, then two losses: 3 - 2 - 2.
        hold(x, 1, 10);
        showUp(x, 9);
        due("settle() of a natural", x.settle(), 3);
        for (int i = 0; i < 2; i++) {
            hold(x, 5);
            showUp(x, 9);
            due("settle() of a loss", x.settle(), -2);
        }
        due("told(7) that is like NONE", x.told(7), NONE);
        countsLikeRefusals();
    }

    /** More than 333 cards of a mark of -3 leave, which is within the 512 calls. */
    private static void countsLikeRefusals() {
        ShoeTable x = new ShoeTable();
        x.mark(1, -3);
        for (int i = 0; i < 333; i++) {
            if (i % 32 == 0) {
                x.shoe(1, 32);
            }
            x.take(1, 2);
        }
        x.shoe(3, 2);
        x.mark(3, -2);
        x.take(3, 2);
        due("told(6) that is like OUTSIDE", x.told(6), OUTSIDE);
        x.mark(3, -3);
        due("told(6) that is like STATE", x.told(6), STATE);
        x.mark(3, -2);
        x.take(3, 2);
        due("told(6) that is like FULL", x.told(6), FULL);
        x.shoe(4, 1);
        x.mark(4, -1);
        x.take(4, 2);
        due("told(6) that is like LARGE", x.told(6), LARGE);
        due("told(8)", x.told(8), 336);
    }

    private static void countOfWhatLeft() {
        says("THE COUNT: the sum of MARKS (as they are) of all cards that left THE SHOE by draw(), take() or settle() "
            + "since fresh().");
        ShoeTable x = of(5, 5, 5, 5, 5, 5, 5);
        x.mark(5, 3);
        due("told(6) of none", x.told(6), 0);
        for (int to = 0; to <= 2; to++) {
            x.draw(to);
            due("told(6)", x.told(6), 3 * (2 * to + 1));
            x.take(5, to);
            due("told(6)", x.told(6), 3 * (2 * to + 2));
        }
        due("settle(): 10 against 5, 5", x.settle(), 0);
        due("told(6)", x.told(6), 21);
        due("told(8)", x.told(8), 7);
        x.lay();
        x.shoe(5, 3);
        x.shoe(5, 0);
        due("told(6), by no other call", x.told(6), 21);
        due("told(8), by no other call", x.told(8), 7);
        x.fresh();
        due("told(6) since fresh()", x.told(6), 0);
        due("told(8) since fresh()", x.told(8), 0);
    }

    private static void countByMarksAsTheyAre() {
        says("THE COUNT: the sum of MARKS (as they are)");
        ShoeTable x = of(1, 10, 10);
        x.take(1, 0);
        x.take(10, 1);
        due("told(6)", x.told(6), 0);
        x.mark(1, 3);
        due("told(6)", x.told(6), 3);
        x.mark(10, -3);
        due("told(6)", x.told(6), 0);
        x.mark(1, -3);
        due("told(6)", x.told(6), -6);
    }

    private static void toldAsksOnly() {
        says("What = 0 cards of THE HAND, 1 its VALUE, 2 whether it is SOFT, 3 NATURAL, 4 BUST (1, 0 each), 5 UP (NONE)");
        for (int what = 0; what <= 21; what++) {
            int w = what;
            onlyAsks("told(" + w + ")", Tables::busy, x -> x.told(w));
        }
        for (int up = 1; up <= 10; up++) {
            due("told(5)", table(cards(2), up).told(5), up);
        }
        due("told(5)", of(1, 2).told(5), NONE);
    }

    // ---- promise 12

    private static ShoeTable noUp() {
        ShoeTable x = of(2, 3, 4);
        hold(x, 5, 6);
        return x;
    }

    private static ShoeTable noHand() {
        ShoeTable x = of(2, 3, 4);
        showUp(x, 5);
        return x;
    }

    private static ShoeTable bustWithoutUp() {
        ShoeTable x = noUp();
        hold(x, 10, 10);
        return x;
    }

    private static void settleNeedsBoth() {
        says("STATE: THE HAND is empty, or UP.");
        refused("settle(), neither", () -> of(2, 3, 4), ShoeTable::settle, STATE);
        refused("settle(), no UP", TableBoundsTest::noUp, ShoeTable::settle, STATE);
        refused("settle(), no HAND", TableBoundsTest::noHand, ShoeTable::settle, STATE);
        refused("settle(), bust and no UP", TableBoundsTest::bustWithoutUp, ShoeTable::settle, STATE);
        due("settle() of one card", table(cards(1), 5).settle(), 2);
        due("settle() of twelve", table(times(12, 1), 5).settle(), 2);
    }

    /** What a settle() answers, and how many cards are left then. */
    private static void dueSettle(String how, ShoeTable x, int halves, int left) {
        int before = x.told(8) + x.left(0) - left;
        due("settle() " + how, x.settle(), halves);
        due("left(0) " + how, x.left(0), left);
        due("told(8) " + how, x.told(8), before);
        due("told(7) " + how, x.told(7), halves);
    }

    private static ShoeTable seededTable(int seed) {
        ShoeTable x = table(cards(10, 8), 2, 1, 2, 3, 4, 5, 6, 7, 8, 9, 10);
        x.seed(seed);
        return x;
    }

    private static void houseDrawsByTheDraw() {
        says("THE HOUSE draws by THE DRAW, and it is settled");
        for (int seed = 0; seed < 20_000; seed += 1000) {
            ShoeTable x = seededTable(seed);
            ShoeTable y = seededTable(seed);
            x.settle();
            while (y.left(0) > x.left(0)) {
                y.draw(2);
            }
            for (int r = 0; r <= 10; r++) {
                due("left(" + r + ") after settle() and after as many draws", x.left(r), y.left(r));
            }
            due("the next draw", x.draw(2), y.draw(2));
        }
    }

    private static void houseWithoutCards() {
        says("as long as there are cards, and VALUE is below STANDS");
        dueSettle("of 3 against 2 alone", table(cards(3), 2), 2, 0);
        dueSettle("of 2 against 2 alone", table(cards(2), 2), 0, 0);
        dueSettle("of 2 against 3 alone", table(cards(2), 3), -2, 0);
        dueSettle("of 10 against 1 alone, 11", table(cards(10), 1), -2, 0);
        dueSettle("of 6 against 2, 3", table(cards(6), 2, 3), 2, 0);
        dueSettle("of 4 against 2, 3", table(cards(4), 2, 3), -2, 0);
    }

    private static void houseBelowStands() {
        says("as long as there are cards, and VALUE is below STANDS, or just STANDS, SOFT, and SOFTLY is 1.");
        int[] twenty = cards(10, 10);
        dueSettle("16 draws", table(twenty, 10, 6, 6), 2, 0);
        dueSettle("17 stands", table(twenty, 10, 7, 7), 2, 1);
        dueSettle("18 stands", table(twenty, 10, 8, 8), 2, 1);
        dueSettle("16 stands by 16", table(21, 16, twenty, 10, 6, 6), 2, 1);
        dueSettle("17 draws by 18", table(21, 18, twenty, 10, 7, 7), 2, 0);
        dueSettle("20 draws by 21", table(21, 21, twenty, 10, 10, 10), 2, 0);
        dueSettle("21 stands by 21", table(21, 21, twenty, 7, 7, 7, 7), -2, 1);
        dueSettle("UP 10 stands by 10", table(21, 10, twenty, 10, 5, 5), 2, 2);
        dueSettle("UP 9 draws by 10", table(21, 10, twenty, 9, 5, 5), 2, 1);
        dueSettle("UP 1, 11, stands by 10", table(21, 10, twenty, 1, 5, 5), 2, 2);
        dueSettle("UP 10 draws by 11", table(21, 11, twenty, 10, 5, 5), 2, 1);
        dueSettle("UP 1, 11, stands by 11", table(21, 11, twenty, 1, 5, 5), 2, 2);
    }

    private static void houseSoftly() {
        says("or just STANDS, SOFT, and SOFTLY is 1.");
        int[] nineteen = cards(10, 9);
        dueSettle("soft 17 stands", table(nineteen, 1, 6, 6), 2, 1);
        dueSettle("soft 17 draws, softly", softly(table(nineteen, 1, 6, 6)), 2, 0);
        dueSettle("soft 16 draws", table(nineteen, 1, 5, 5), -2, 0);
        dueSettle("soft 18 stands, softly", softly(table(nineteen, 1, 7, 7)), 2, 1);
        dueSettle("hard 17 stands, softly", softly(table(nineteen, 10, 7, 7)), 2, 1);
        dueSettle("hard 17 with an ace stands, softly", softly(table(nineteen, 10, 1, 1, 1, 1, 1, 1, 1, 1)), -2, 7);
        dueSettle("soft 11 draws, softly, by 11", softly(table(21, 11, nineteen, 1, 9, 9)), -2, 1);
        dueSettle("no card to draw, softly", softly(table(nineteen, 1, 6)), 2, 0);
    }

    private static void houseStandsOnTarget() {
        says("STANDS (10 .. TARGET; 17)");
        int[] twenty = cards(10, 10);
        dueSettle("soft 21 stands by 21", table(21, 21, twenty, 1, 10, 10), -2, 1);
        dueSettle("soft 21 draws, softly, by 21", softly(table(21, 21, twenty, 1, 10, 10)), -2, 0);
        dueSettle("soft 12 of 12 stands", table(12, 12, cards(1, 10), 1, 1, 1), -2, 1);
        dueSettle("soft 12 of 12 draws, softly: 3", softly(table(12, 12, cards(1, 10), 1, 1, 1)), 2, 0);
        dueSettle("11 of 11 stands", table(11, 11, cards(5, 5), 1, 1, 1), -2, 2);
    }

    private static void houseIsBust() {
        says("THE END is its VALUE then; 0, if it is BUST.");
        dueSettle("21 is not bust", table(cards(10, 10), 10, 6, 5), -2, 0);
        ShoeTable x = table(cards(2), 10, 6, 6);
        dueSettle("22 is bust", x, 2, 0);
        dueSettle("17 of 17", table(17, 17, cards(10, 6), 10, 7), -2, 0);
        dueSettle("18 of 17 is bust", table(17, 17, cards(2), 10, 8), 2, 0);
        dueSettle("11 of 11", table(11, 11, cards(10), 10, 1), -2, 0);
        dueSettle("12 of 11 is bust", table(11, 11, cards(2), 10, 2), 2, 0);
    }

    private static void settledByTheEnd() {
        says("Else with VALUE v: THE END e below v: 2 (of a NATURAL BONUS); e above v: -2; the same: 0.");
        dueSettle("16 against 17", table(cards(10, 6), 10, 7), -2, 0);
        dueSettle("17 against 17", table(cards(10, 7), 10, 7), 0, 0);
        dueSettle("18 against 17", table(cards(10, 8), 10, 7), 2, 0);
        dueSettle("20 against 21", table(cards(10, 10), 10, 1), -2, 0);
        dueSettle("21 of three against 21", table(cards(7, 7, 7), 10, 1), 0, 0);
        dueSettle("21 of three against 20", table(cards(7, 7, 7), 10, 10), 2, 0);
        dueSettle("2 against a house that is bust", table(cards(2), 10, 6, 10), 2, 0);
        dueSettle("soft 12 against 11", table(cards(1, 1), 1), 2, 0);
    }

    private static void settledBust() {
        says("(A HAND that is BUST: THE HOUSE does not draw.)");
        dueSettle("22", table(cards(10, 10, 2), 10, 6, 10), -2, 2);
        dueSettle("21 is not bust", table(cards(10, 9, 2), 10, 6, 10), 2, 0);
        dueSettle("12 of 11", table(11, 11, cards(10, 2), 5, 1, 1), -2, 2);
        dueSettle("120", table(times(12, 10), 2, 3), -2, 1);
        ShoeTable x = table(cards(10, 10, 2), 10);
        x.shoe(4, 2);
        x.shoe(9, 1);
        x.seed(31);
        x.settle();
        dueDraws(x, 31, 4, 4, 9);
    }

    private static void settledNatural() {
        says("THE END e below v: 2 (of a NATURAL BONUS)");
        for (int bonus = 2; bonus <= 4; bonus++) {
            ShoeTable x = table(cards(1, 10), 10, 10);
            x.rule(6, bonus);
            dueSettle("a natural", x, bonus, 0);
            ShoeTable y = table(cards(1, 10), 10, 1);
            y.rule(6, bonus);
            dueSettle("a natural against 21", y, 0, 0);
            ShoeTable z = table(cards(1, 10), 10, 6, 6);
            z.rule(6, bonus);
            dueSettle("a natural, the house is bust", z, bonus, 0);
            ShoeTable three = table(cards(1, 5, 5), 10, 10);
            three.rule(6, bonus);
            dueSettle("21 of three", three, 2, 0);
            ShoeTable one = table(11, 10, cards(1), 10, 5);
            one.rule(6, bonus);
            dueSettle("11 of one card, TARGET 11", one, 2, 1);
        }
    }

    private static void settleLaysAside() {
        says("what that is, in halves; both are laid aside.");
        ShoeTable x = busy();
        ShoeTable y = busy();
        x.settle();
        due("told(0)", x.told(0), 0);
        due("told(1)", x.told(1), 0);
        due("told(5)", x.told(5), NONE);
        due("told(10)", x.told(10), NONE);
        due("lay()", x.lay(), 0);
        due("settle()", x.settle(), STATE);
        due("told(8) and left(0)", x.told(8) + x.left(0), y.told(8) + y.left(0));
        ShoeTable bust = table(cards(10, 10, 2), 10, 6);
        bust.settle();
        due("told(0) of one that was bust", bust.told(0), 0);
        due("told(5) of one that was bust", bust.told(5), NONE);
    }

    private static void bankAddsUp() {
        says("THE BANK (0 at first) has what was settled by settle(), in halves.");
        ShoeTable x = new ShoeTable();
        int bank = 0;
        for (int i = 0; i < 20; i++) {
            hold(x, 3 + i % 5);
            showUp(x, 5);
            int due = i % 5 < 2 ? -2 : i % 5 == 2 ? 0 : 2;
            due("settle()", x.settle(), due);
            bank += due;
            due("told(7)", x.told(7), bank);
            x.lay();
            due("told(7), lay() settles nothing", x.told(7), bank);
        }
        due("settle(), refused", x.settle(), STATE);
        due("told(7)", x.told(7), bank);
    }

    private static void theLastCall() {
        says("An object is used for at most 512 calls after it has been made");
        ShoeTable x = new ShoeTable();
        x.shoe(1, 1);
        x.shoe(2, 1);
        x.mark(2, 3);
        x.seed(5);
        BigInteger draw = BigInteger.valueOf(5);
        int count = 0;
        for (int call = 5; call <= 510; call += 2) {
            draw = after(draw);
            int rank = 1 + place(draw, 2);
            due("draw(2), call " + call, x.draw(2), rank);
            due("shoe, call " + (call + 1), x.shoe(rank, 1), 0);
            count += rank == 2 ? 3 : 0;
        }
        due("told(8), call 511", x.told(8), 253);
        due("told(6), call 512", x.told(6), count);
    }
}
