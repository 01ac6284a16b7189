import java.math.BigInteger;

/** Boundary cases of worths and chances: promises 13 to 19, and what the terms say of acts and heaps. */
public final class WorthBoundsTest extends Check {
    private static final String ORDER = "Calls answer, the first of these that fits: OUTSIDE (a number out of its "
        + "bounds), STATE (as told), FULL, LARGE; then nothing changes.";
    private static final String AT_MOST = "All that is asked of WORTHS, and of chances, is told if THE SHOE has at "
        + "most 12 cards (a DEAL: 8); else it is LARGE.";

    public static void main(String[] args) {
        thereOfActs();
        thereNeedsHandAndUp();
        thereUnlessBust();
        thereWithCardsEnough();
        thereWithAPlace();
        thereOfDouble();
        thereOfSplit();
        thereOfGiveUp();
        thereOfALargeShoe();
        worthOfActsAndParts();
        worthOfWhatIsNotThere();
        worthOfALargeShoe();
        worthRefusedInOrder();
        standByTheEnd();
        standOfANatural();
        drawToBust();
        drawOrStandThen();
        drawBeyondThePlaces();
        doubleTwice();
        splitOneByOne();
        splitIsNoNatural();
        giveUp();
        fractionsInLeastTerms();
        bestOfNone();
        bestOfLikeOnes();
        bestOfALargeShoe();
        worthsAskOnly();
        chanceOfEnds();
        chanceNeedsUp();
        chanceOfALargeShoe();
        chanceWithoutCards();
        chanceOfStanding();
        chanceOfBust();
        chancesAddUp();
        dealParts();
        dealOfFewCards();
        dealOfALargeShoe();
        dealOfBustCards();
        dealWithoutTheTable();
        dealOfTheBest();
        movedParts();
        movedOfNoCard();
        movedOfNoAct();
        movedOfALargeShoe();
        movedOfTheLastCards();
        knownParts();
        knownWhenShoeWasTold();
        knownOfALargeShoe();
        knownOfManyThatLeft();
        knownRefusedInOrder();
        knownOfNoneAndOfAll();
        knownByWays();
        knownByTheFarthestSums();
        end();
    }

    private static void dueThere(String how, ShoeTable x, int... due) {
        for (int act = 0; act <= 4; act++) {
            due("there(" + act + ") of " + how, x.there(act), due[act]);
        }
    }

    private static void dueWorth(ShoeTable x, int act, long upper, long lower) {
        due("worth(" + act + ", 0)", x.worth(act, 0), upper);
        due("worth(" + act + ", 1)", x.worth(act, 1), lower);
    }

    private static void dueChance(ShoeTable x, int e, long upper, long lower) {
        due("chance(" + e + ", 0)", x.chance(e, 0), upper);
        due("chance(" + e + ", 1)", x.chance(e, 1), lower);
    }

    private static void dueDeal(ShoeTable x, long upper, long lower) {
        due("deal(0)", x.deal(0), upper);
        due("deal(1)", x.deal(1), lower);
    }

    private static void dueMoved(ShoeTable x, int rank, long upper, long lower) {
        due("moved(" + rank + ", 0)", x.moved(rank, 0), upper);
        due("moved(" + rank + ", 1)", x.moved(rank, 1), lower);
    }

    private static void dueKnown(ShoeTable x, int rank, long upper, long lower) {
        due("known(" + rank + ", 0)", x.known(rank, 0), upper);
        due("known(" + rank + ", 1)", x.known(rank, 1), lower);
    }

    /** A pair against a 6, with so many tens: all acts are there. */
    private static ShoeTable pairAndTens(int tens) {
        return table(cards(5, 5), 6, times(tens, 10));
    }

    private static ShoeTable with(ShoeTable x, int what, int v) {
        x.rule(what, v);
        return x;
    }

    private static ShoeTable noUp(int tens) {
        ShoeTable x = of(times(tens, 10));
        hold(x, 5, 5);
        return x;
    }

    private static ShoeTable noHand(int tens) {
        ShoeTable x = of(times(tens, 10));
        showUp(x, 6);
        return x;
    }

    private static ShoeTable bust(int tens) {
        return table(cards(10, 10, 2), 6, times(tens, 10));
    }

    // ---- promise 13

    private static void thereOfActs() {
        says("Whether an ACT (0 .. 4) is THERE: 1, 0. OUTSIDE.");
        bound("there(v)", Tables::busy, (x, v) -> x.there(v), 0, 4);
        bound("there(v) of a new one", ShoeTable::new, (x, v) -> x.there(v), 0, 4);
        dueThere("all", pairAndTens(2), 1, 1, 1, 1, 1);
        dueThere("nothing", new ShoeTable(), 0, 0, 0, 0, 0);
    }

    private static void thereNeedsHandAndUp() {
        says("An ACT is THERE, if it is as told, THE HAND has a card, is not BUST, UP is there");
        dueThere("no hand, no UP", of(10, 10), 0, 0, 0, 0, 0);
        dueThere("no hand", noHand(2), 0, 0, 0, 0, 0);
        dueThere("no UP", noUp(2), 0, 0, 0, 0, 0);
        dueThere("one card", table(cards(5), 6, 10, 10), 1, 1, 0, 0, 0);
        ShoeTable x = pairAndTens(2);
        x.lay();
        dueThere("laid aside", x, 0, 0, 0, 0, 0);
    }

    private static void thereUnlessBust() {
        says("An ACT is THERE, if it is as told, THE HAND has a card, is not BUST, UP is there");
        dueThere("20", table(cards(10, 10), 6, 2, 2), 1, 1, 1, 1, 1);
        dueThere("21 of three", table(cards(10, 10, 1), 6, 2, 2), 1, 1, 0, 0, 0);
        dueThere("22 of three", table(cards(10, 10, 2), 6, 2, 2), 0, 0, 0, 0, 0);
        dueThere("20 of 20", table(20, 10, cards(10, 10), 6, 2, 2), 1, 1, 1, 1, 1);
        dueThere("20 of 19", table(19, 10, cards(10, 10), 6, 2, 2), 0, 0, 0, 0, 0);
        dueThere("2 of 11, two aces", table(11, 10, cards(1, 1), 6, 2, 2), 1, 1, 1, 1, 1);
    }

    private static void thereWithCardsEnough() {
        says("and THE SHOE has cards enough (DRAW, DOUBLE: 1, SPLIT: 2; DRAW also a place in THE HAND).");
        dueThere("no card", pairAndTens(0), 1, 0, 0, 0, 1);
        dueThere("one card left", pairAndTens(1), 1, 1, 1, 0, 1);
        dueThere("two cards left", pairAndTens(2), 1, 1, 1, 1, 1);
        dueThere("two other cards left", table(cards(5, 5), 6, 1, 9), 1, 1, 1, 1, 1);
    }

    private static void thereWithAPlace() {
        says("and THE SHOE has cards enough (DRAW, DOUBLE: 1, SPLIT: 2; DRAW also a place in THE HAND).");
        dueThere("eleven in the hand", table(times(11, 1), 6, 2), 1, 1, 0, 0, 0);
        dueThere("twelve in the hand", table(times(12, 1), 6, 2), 1, 0, 0, 0, 0);
    }

    private static void thereOfDouble() {
        says("2 DOUBLE (THE HAND has two cards, DOUBLES is 1)");
        due("one card", table(cards(5), 6, 2, 2).there(2), 0);
        due("two cards", table(cards(5, 6), 6, 2, 2).there(2), 1);
        due("three cards", table(cards(5, 6, 1), 6, 2, 2).there(2), 0);
        due("DOUBLES is 0", with(table(cards(5, 6), 6, 2, 2), 3, 0).there(2), 0);
        due("SPLITS is 0", with(table(cards(5, 6), 6, 2, 2), 4, 0).there(2), 1);
        due("GIVES is 0", with(table(cards(5, 6), 6, 2, 2), 5, 0).there(2), 1);
    }

    private static void thereOfSplit() {
        says("3 SPLIT (two cards of one RANK, SPLITS is 1)");
        for (int r = 1; r <= 10; r++) {
            due("two of " + r, table(cards(r, r), 6, 2, 2).there(3), 1);
            due("one of " + r, table(cards(r), 6, 2, 2).there(3), 0);
            due(r + " and another", table(cards(r, r % 10 + 1), 6, 2, 2).there(3), 0);
            due("another and " + r, table(cards(r % 10 + 1, r), 6, 2, 2).there(3), 0);
        }
        due("three of one", table(cards(5, 5, 5), 6, 2, 2).there(3), 0);
        due("SPLITS is 0", with(pairAndTens(2), 4, 0).there(3), 0);
        due("DOUBLES is 0", with(pairAndTens(2), 3, 0).there(3), 1);
        due("GIVES is 0", with(pairAndTens(2), 5, 0).there(3), 1);
    }

    private static void thereOfGiveUp() {
        says("4 GIVE UP (two cards, GIVES is 1): -1.");
        due("one card", table(cards(5), 6, 2, 2).there(4), 0);
        due("two cards", table(cards(5, 6), 6, 2, 2).there(4), 1);
        due("three cards", table(cards(5, 6, 1), 6, 2, 2).there(4), 0);
        due("GIVES is 0", with(table(cards(5, 6), 6, 2, 2), 5, 0).there(4), 0);
        due("SPLITS is 0", with(table(cards(5, 6), 6, 2, 2), 4, 0).there(4), 1);
        due("DOUBLES is 0", with(table(cards(5, 6), 6, 2, 2), 3, 0).there(4), 1);
    }

    private static void thereOfALargeShoe() {
        says("Whether an ACT (0 .. 4) is THERE: 1, 0. OUTSIDE.");
        dueThere("12 cards", pairAndTens(12), 1, 1, 1, 1, 1);
        dueThere("13 cards", pairAndTens(13), 1, 1, 1, 1, 1);
        ShoeTable x = pairAndTens(0);
        for (int r = 1; r <= 10; r++) {
            x.shoe(r, 32);
        }
        dueThere("320 cards", x, 1, 1, 1, 1, 1);
    }

    // ---- promise 14

    private static void worthOfActsAndParts() {
        says("WORTH of an ACT: what = 0 the upper number, 1 the lower one.");
        for (int part = 0; part <= 1; part++) {
            int p = part;
            bound("worth(v, " + p + ")", Tables::busy, (x, v) -> x.worth(v, p), 0, 4);
        }
        for (int act = 0; act <= 4; act++) {
            int a = act;
            bound("worth(" + a + ", v)", Tables::busy, (x, v) -> x.worth(a, v), 0, 1);
        }
        ShoeTable x = table(cards(8, 8), 10, 10, 10, 3);
        due("worth(3, 0)", x.worth(3, 0), -4);
        due("worth(3, 1)", x.worth(3, 1), 3);
    }

    private static void worthOfWhatIsNotThere() {
        says("OUTSIDE; STATE: it is not THERE; LARGE.");
        for (int act = 0; act <= 4; act++) {
            int a = act;
            refused("worth(" + a + ", 0), no UP", () -> noUp(3), x -> x.worth(a, 0), STATE);
            refused("worth(" + a + ", 1), no HAND", () -> noHand(3), x -> x.worth(a, 1), STATE);
            refused("worth(" + a + ", 0), bust", () -> bust(3), x -> x.worth(a, 0), STATE);
        }
        refused("worth(1, 0), no card", () -> pairAndTens(0), x -> x.worth(1, 0), STATE);
        refused("worth(2, 0), no card", () -> pairAndTens(0), x -> x.worth(2, 0), STATE);
        refused("worth(3, 0), one card", () -> pairAndTens(1), x -> x.worth(3, 0), STATE);
        refused("worth(1, 0), no place", () -> table(times(12, 1), 6, 2), x -> x.worth(1, 0), STATE);
        for (int act = 2; act <= 4; act++) {
            int a = act;
            refused("worth(" + a + ", 0), one card", () -> table(cards(5), 6, 2, 2), x -> x.worth(a, 0), STATE);
            refused("worth(" + a + ", 0), three", () -> table(cards(5, 5, 5), 6, 2, 2), x -> x.worth(a, 0), STATE);
            refused("worth(" + a + ", 0), rule", () -> with(pairAndTens(3), a + 1, 0), x -> x.worth(a, 0), STATE);
        }
        refused("worth(3, 0), no pair", () -> table(cards(5, 6), 6, 2, 2), x -> x.worth(3, 0), STATE);
    }

    private static void worthOfALargeShoe() {
        says(AT_MOST);
        int[] due = {2, 2, 4, 4, -1};
        for (int act = 0; act <= 4; act++) {
            int a = act;
            dueWorth(pairAndTens(11), a, due[a], 1);
            dueWorth(pairAndTens(12), a, due[a], 1);
            refused("worth(" + a + ", 0) of 13", () -> pairAndTens(13), x -> x.worth(a, 0), LARGE);
            refused("worth(" + a + ", 1) of 13", () -> pairAndTens(13), x -> x.worth(a, 1), LARGE);
        }
        ShoeTable x = pairAndTens(13);
        x.take(10, 2);
        dueWorth(x, 0, 2, 1);
        x.shoe(9, 1);
        due("worth(0, 0) of 13 again", x.worth(0, 0), LARGE);
    }

    private static void worthRefusedInOrder() {
        says(ORDER);
        refused("worth(5, 0), bust, 13", () -> bust(13), x -> x.worth(5, 0), OUTSIDE);
        refused("worth(0, 2), bust, 13", () -> bust(13), x -> x.worth(0, 2), OUTSIDE);
        refused("worth(-1, 0), 13", () -> pairAndTens(13), x -> x.worth(-1, 0), OUTSIDE);
        refused("worth(0, -1), 13", () -> pairAndTens(13), x -> x.worth(0, -1), OUTSIDE);
        for (int act = 0; act <= 4; act++) {
            int a = act;
            refused("worth(" + a + ", 0), bust, 13", () -> bust(13), x -> x.worth(a, 0), STATE);
            refused("worth(" + a + ", 0), no UP, 13", () -> noUp(13), x -> x.worth(a, 0), STATE);
        }
        refused("worth(3, 0), no pair, 13", () -> table(cards(5, 6), 6, times(13, 10)), x -> x.worth(3, 0), STATE);
    }

    private static void standByTheEnd() {
        says("0 STAND: THE HOUSE ends.");
        dueWorth(table(cards(10, 6), 10, 7), 0, -2, 1);
        dueWorth(table(cards(10, 7), 10, 7), 0, 0, 1);
        dueWorth(table(cards(10, 8), 10, 7), 0, 2, 1);
        dueWorth(table(cards(2), 10, 6, 6), 0, 2, 1);
        dueWorth(table(cards(2), 10, 6, 5), 0, -2, 1);
        // No card left: the house ends with UP.
        dueWorth(table(cards(5), 6), 0, -2, 1);
        dueWorth(table(cards(6), 6), 0, 0, 1);
        dueWorth(table(cards(7), 6), 0, 2, 1);
        dueWorth(table(cards(10), 1), 0, -2, 1);
        // 17, 18 or 19 against 18.
        dueWorth(table(cards(10, 8), 10, 7, 8, 9), 0, 0, 1);
        dueWorth(table(cards(10, 8), 10, 7, 8, 9, 9), 0, -1, 2);
    }

    private static void standOfANatural() {
        says("THE END e below v: 2 (of a NATURAL BONUS); e above v: -2; the same: 0.");
        for (int bonus = 2; bonus <= 4; bonus++) {
            dueWorth(with(table(cards(1, 10), 10, 9), 6, bonus), 0, bonus, 1);
            dueWorth(with(table(cards(1, 10), 10, 1), 6, bonus), 0, 0, 1);
            dueWorth(with(table(cards(1, 9), 10, 9), 6, bonus), 0, 2, 1);
            dueWorth(with(table(cards(1, 4, 6), 10, 9), 6, bonus), 0, 2, 1);
            dueWorth(with(table(20, 10, cards(10, 10), 10, 9), 6, bonus), 0, bonus, 1);
            // One card of VALUE TARGET.
            dueWorth(with(table(11, 10, cards(1), 10, 9), 6, bonus), 0, 2, 1);
        }
    }

    private static void drawToBust() {
        says("BUST: it is settled (THE HOUSE does not draw)");
        dueWorth(table(cards(10, 10), 5, 1), 1, 2, 1);
        dueWorth(table(cards(10, 10), 5, 2), 1, -2, 1);
        dueWorth(table(cards(10, 10), 5, 2, 10), 1, -2, 1);
        dueWorth(table(11, 10, cards(5, 5), 5, 1), 1, 2, 1);
        dueWorth(table(11, 10, cards(5, 5), 5, 2), 1, -2, 1);
        // To 21 an ace more is bust.
        dueWorth(table(cards(10, 10, 1), 5, 1), 1, -2, 1);
    }

    private static void drawOrStandThen() {
        says("else the better one of STAND and, if there are cards, DRAW (places in THE HAND are not looked at then).");
        // The last card comes: nothing but to stand.
        dueWorth(table(cards(2), 5, 2), 1, -2, 1);
        dueWorth(table(cards(2), 5, 3), 1, 0, 1);
        dueWorth(table(cards(2), 5, 4), 1, 2, 1);
        // After 5 it draws 10 rather than stand against 13; after 10 it stands against 8.
        dueWorth(table(cards(2), 3, 5, 10), 1, 2, 1);
        // After 10 it stands on 20 against 12; after 2 both are lost.
        dueWorth(table(cards(10), 10, 10, 2), 1, 0, 1);
        // A card that comes to one of VALUE TARGET makes two: a natural.
        dueWorth(table(cards(10), 9, 1), 1, 3, 1);
        // It draws 3 and 4 in either order, with 10 too: 19, or 15 or 16 against what is left.
        dueWorth(table(cards(2), 10, 3, 4, 10), 1, 2, 1);
        // Three cards of VALUE TARGET are none.
        dueWorth(table(cards(5, 5), 9, 1), 1, 2, 1);
    }

    private static void drawBeyondThePlaces() {
        says("(places in THE HAND are not looked at then)");
        // Twelve aces lose by standing against 10, 1; a thirteenth leaves the house with 10.
        dueWorth(table(times(11, 1), 10, 1, 1), 1, 2, 1);
        dueWorth(table(times(11, 1), 10, 1), 1, 2, 1);
        due("best() of eleven", table(times(11, 1), 10, 1, 1).best(), 1);
        // Twelve are no place more: only standing is there, on 12 against 21 and 11.
        ShoeTable x = table(times(12, 1), 10, 1, 1);
        refused("worth(1, 0)", () -> table(times(12, 1), 10, 1, 1), t -> t.worth(1, 0), STATE);
        dueWorth(x, 0, -2, 1);
        due("best() of twelve", x.best(), 0);
    }

    private static void doubleTwice() {
        says("one card, then STAND (BUST: -2): all of it twice.");
        dueWorth(table(cards(10, 9), 10, 2), 2, 4, 1);
        dueWorth(table(cards(10, 9), 10, 3), 2, -4, 1);
        dueWorth(table(cards(10, 9), 10, 3, 9), 2, -4, 1);
        dueWorth(table(cards(2, 3), 7, 2), 2, 0, 1);
        dueWorth(table(cards(2, 3), 7, 1), 2, 4, 1);
        // 5 stands on 9 against 13, 10 on 14 against 8; drawing on would win both.
        dueWorth(table(cards(2, 2), 3, 5, 10), 2, 0, 1);
        dueWorth(table(cards(2, 2), 3, 5, 10), 1, 2, 1);
        dueWorth(with(table(cards(5, 6), 9, 10), 6, 4), 2, 4, 1);
    }

    private static void splitOneByOne() {
        says("THE HOUSE ends; both are settled, one by one (BUST: -2)");
        dueWorth(table(cards(8, 8), 5, 10, 3), 3, 4, 1);
        // 10 and 2 or 3 win and lose; 2 and 3 lose twice against 20.
        dueWorth(table(cards(8, 8), 10, 10, 2, 3), 3, -4, 3);
        // 13 is bust, 12 is not; then both; then none.
        dueWorth(table(12, 10, cards(5, 5), 2, 8, 7), 3, 0, 1);
        dueWorth(table(12, 10, cards(5, 5), 2, 8, 8), 3, -4, 1);
        dueWorth(table(12, 10, cards(5, 5), 2, 7, 7), 3, 4, 1);
        // 9 and 11 against 10, then 10 and 11.
        dueWorth(table(12, 10, cards(5, 5), 10, 4, 6), 3, 0, 1);
        dueWorth(table(12, 10, cards(5, 5), 10, 5, 6), 3, 2, 1);
    }

    private static void splitIsNoNatural() {
        says("VALUE TARGET is no NATURAL.");
        for (int bonus = 2; bonus <= 4; bonus++) {
            dueWorth(with(table(cards(1, 1), 6, 10, 10), 6, bonus), 3, 4, 1);
            dueWorth(with(table(cards(10, 10), 6, 1, 1), 6, bonus), 3, 4, 1);
            dueWorth(with(table(11, 10, cards(5, 5), 6, 6, 6), 6, bonus), 3, 4, 1);
        }
        says("3 SPLIT (two cards of one RANK, SPLITS is 1): each of them gets a card, the first one first");
        // 12 and 21 against 6; 21 twice against 20; against 21: 18 twice, and 21 twice.
        dueWorth(table(cards(1, 1), 6, 10, 1), 3, 4, 1);
        dueWorth(table(cards(1, 1), 10, 10, 10, 10), 3, 4, 1);
        dueWorth(table(cards(8, 8), 1, 10, 10, 10), 3, -4, 1);
        dueWorth(table(cards(10, 10), 10, 1, 1, 1), 3, 0, 1);
        // 21 twice against 20 in one of three times, else 21 and 20 against 21.
        dueWorth(table(cards(10, 10), 10, 1, 1, 10), 3, 0, 1);
    }

    private static void giveUp() {
        says("4 GIVE UP (two cards, GIVES is 1): -1.");
        for (int n = 0; n <= 12; n++) {
            dueWorth(pairAndTens(n), 4, -1, 1);
        }
        dueWorth(table(cards(1, 10), 6, 10), 4, -1, 1);
    }

    private static void dueLeastTerms(String call, long upper, long lower) {
        BigInteger divisor = BigInteger.valueOf(upper).gcd(BigInteger.valueOf(lower));
        holds(call + " in least terms: " + upper + "/" + lower, divisor.equals(BigInteger.ONE));
        holds(call + ": lower number above 0", lower > 0);
    }

    private static void fractionsInLeastTerms() {
        says("Fractions are in least terms, the lower number above 0.");
        int[][] shoes = {{1, 2, 3}, {10, 9, 8, 7, 6}, {2, 2, 4, 4, 6, 6, 8, 8}, {1, 1, 5, 5, 9, 10}, {3}};
        for (int[] shoe : shoes) {
            for (int up = 1; up <= 10; up += 3) {
                ShoeTable x = table(cards(4, 4), up, shoe);
                for (int act = 0; act <= 4; act++) {
                    if (x.there(act) == 1) {
                        dueLeastTerms("worth(" + act + ")", x.worth(act, 0), x.worth(act, 1));
                    }
                }
                for (int e = 2; e <= 21; e++) {
                    dueLeastTerms("chance(" + e + ")", x.chance(e, 0), x.chance(e, 1));
                }
                dueLeastTerms("moved(" + shoe[0] + ")", x.moved(shoe[0], 0), x.moved(shoe[0], 1));
                if (shoe.length >= 3) {
                    dueLeastTerms("deal", x.deal(0), x.deal(1));
                }
                x.fresh();
                x.draw(2);
                dueLeastTerms("known(" + shoe[0] + ")", x.known(shoe[0], 0), x.known(shoe[0], 1));
            }
        }
        // Nothing is 0 over 1.
        dueWorth(table(cards(10, 7), 10, 7), 0, 0, 1);
        dueChance(noHand(3), 17, 0, 1);
        dueDeal(of(times(8, 10)), 0, 1);
        dueMoved(pairAndTens(12), 10, 0, 1);
        dueKnown(of(2, 2), 3, 0, 1);
    }

    // ---- promise 15

    private static void bestOfNone() {
        says("THE BEST ACT. STATE: none is THERE; LARGE.");
        refused("best(), nothing", ShoeTable::new, ShoeTable::best, STATE);
        refused("best(), no UP", () -> noUp(3), ShoeTable::best, STATE);
        refused("best(), no HAND", () -> noHand(3), ShoeTable::best, STATE);
        refused("best(), bust", () -> bust(3), ShoeTable::best, STATE);
        due("best() of one card, none left", table(cards(2), 3).best(), 0);
        due("best() of 21", table(cards(10, 10, 1), 3).best(), 0);
    }

    private static void bestOfLikeOnes() {
        says("THE BEST: that with the greatest WORTH, of like ones the least.");
        // STAND, DRAW and DOUBLE are 0.
        due("STAND and DRAW", table(cards(10, 6), 10, 10, 5).best(), 0);
        // STAND -2, DRAW and DOUBLE 0: 20 against 17, 18 against 19.
        due("DRAW and DOUBLE", table(cards(2, 8), 9, 10, 8).best(), 1);
        due("DOUBLE and SPLIT", table(cards(1, 1), 6, 10, 10, 10).best(), 2);
        // 17 or 18 against 17: -1.
        due("STAND and GIVE UP", table(cards(10, 7), 10, 7, 8).best(), 0);
        due("GIVE UP alone", table(cards(10, 7), 10, 8, 9).best(), 4);
        // STAND -2; DRAW: 18 against 18, or bust: -1; DOUBLE -2.
        due("DRAW and GIVE UP", table(cards(10, 6), 8, 10, 2).best(), 1);
        due("all are lost, no GIVE UP", with(table(cards(10, 7), 10, 8, 9), 5, 0).best(), 0);
        due("SPLIT alone", table(cards(8, 8), 5, 10, 10).best(), 3);
        due("no SPLIT there", with(table(cards(8, 8), 5, 10, 10), 4, 0).best(), 0);
    }

    private static void bestOfALargeShoe() {
        says(AT_MOST);
        due("best() of 12", pairAndTens(12).best(), 2);
        refused("best() of 13", () -> pairAndTens(13), ShoeTable::best, LARGE);
        says(ORDER);
        refused("best() of 13, none there", () -> bust(13), ShoeTable::best, STATE);
        refused("best() of 13, no UP", () -> noUp(13), ShoeTable::best, STATE);
    }

    private static void worthsAskOnly() {
        says("WORTH of an ACT: the mean of what it is settled by, in halves.");
        for (int act = 0; act <= 4; act++) {
            int a = act;
            onlyAsks("worth(" + a + ", 0)", Tables::busy, x -> x.worth(a, 0));
            onlyAsks("worth(" + a + ", 1)", () -> pairAndTens(12), x -> x.worth(a, 1));
            onlyAsks("there(" + a + ")", Tables::busy, x -> x.there(a));
        }
        onlyAsks("best()", Tables::busy, ShoeTable::best);
        onlyAsks("chance(17, 0)", Tables::busy, x -> x.chance(17, 0));
        onlyAsks("deal(0)", Tables::busy, x -> x.deal(0));
        for (int r = 1; r <= 10; r++) {
            int rank = r;
            onlyAsks("moved(" + r + ", 0)", Tables::busy, x -> x.moved(rank, 0));
            onlyAsks("known(" + r + ", 1)", Tables::busy, x -> x.known(rank, 1));
        }
    }

    // ---- promise 16

    private static void chanceOfEnds() {
        says("The chance that THE END is e (0, 2 .. 21), from UP on, likewise. OUTSIDE");
        bound("chance(v, 0)", Tables::busy, (x, v) -> x.chance(v, 0), 2, 21);
        bound("chance(v, 1)", Tables::busy, (x, v) -> x.chance(v, 1), 2, 21);
        bound("chance(v, 1)", Tables::busy, (x, v) -> x.chance(v, 1), 0, 0);
        bound("chance(0, v)", Tables::busy, (x, v) -> x.chance(0, v), 0, 1);
        bound("chance(21, v)", Tables::busy, (x, v) -> x.chance(21, v), 0, 1);
        outside("chance(1, v)", ShoeTable::new, (x, v) -> x.chance(1, v), 0);
        outside("chance(1, v), large", () -> noHand(13), (x, v) -> x.chance(1, v), 1);
    }

    private static void chanceNeedsUp() {
        says("OUTSIDE; STATE: there is no UP; LARGE.");
        for (int e : new int[] {0, 2, 17, 21}) {
            refused("chance(" + e + ", 0)", () -> noUp(3), x -> x.chance(e, 0), STATE);
        }
        // THE HAND is not looked at.
        dueChance(noHand(3), 0, 1, 1);
        dueChance(bust(3), 0, 1, 1);
        dueChance(table(times(12, 1), 6, 10, 10), 0, 1, 1);
    }

    private static void chanceOfALargeShoe() {
        says(AT_MOST);
        dueChance(noHand(12), 0, 1, 1);
        refused("chance(0, 0) of 13", () -> noHand(13), x -> x.chance(0, 0), LARGE);
        refused("chance(21, 1) of 13", () -> pairAndTens(13), x -> x.chance(21, 1), LARGE);
        says(ORDER);
        refused("chance(0, 0) of 13, no UP", () -> noUp(13), x -> x.chance(0, 0), STATE);
        refused("chance(1, 0) of 13, no UP", () -> noUp(13), x -> x.chance(1, 0), OUTSIDE);
        refused("chance(0, 2) of 13, no UP", () -> noUp(13), x -> x.chance(0, 2), OUTSIDE);
        refused("chance(22, 0) of 13", () -> noHand(13), x -> x.chance(22, 0), OUTSIDE);
    }

    private static void chanceWithoutCards() {
        says("as long as there are cards, and VALUE is below STANDS");
        for (int up = 1; up <= 10; up++) {
            ShoeTable x = new ShoeTable();
            showUp(x, up);
            for (int e = 2; e <= 21; e++) {
                dueChance(x, e, e == (up == 1 ? 11 : up) ? 1 : 0, 1);
            }
            dueChance(x, 0, 0, 1);
        }
        // 3 and 4 are all there is.
        dueChance(table(cards(2), 3, 4), 7, 1, 1);
    }

    private static void chanceOfStanding() {
        says("VALUE is below STANDS, or just STANDS, SOFT, and SOFTLY is 1.");
        int[] any = cards(2);
        // 16 draws, 17 does not.
        dueChance(table(any, 10, 6, 5), 21, 1, 1);
        dueChance(table(any, 10, 7, 4), 17, 1, 2);
        dueChance(table(any, 10, 7, 4), 21, 1, 2);
        dueChance(table(21, 16, any, 10, 6, 5), 16, 1, 2);
        dueChance(table(21, 16, any, 10, 6, 5), 21, 1, 2);
        dueChance(table(21, 10, any, 10, 6, 5), 10, 1, 1);
        dueChance(table(21, 11, any, 1, 6, 5), 11, 1, 1);
        // A soft 17 of 6 and 1: then 5 makes 12.
        dueChance(table(any, 6, 1, 5), 17, 1, 2);
        dueChance(softly(table(any, 6, 1, 5)), 17, 0, 1);
        dueChance(softly(table(any, 6, 1, 5)), 12, 1, 1);
        // A soft 18 and a hard 17 stand, softly too.
        dueChance(softly(table(any, 7, 1, 5)), 18, 1, 2);
        dueChance(softly(table(any, 10, 7, 4)), 17, 1, 2);
        // A soft 21 by 21: 1, 10 and then 5.
        dueChance(table(21, 21, any, 1, 10, 5), 21, 1, 2);
        dueChance(softly(table(21, 21, any, 1, 10, 5)), 21, 0, 1);
        dueChance(softly(table(21, 21, any, 1, 10, 5)), 16, 1, 1);
    }

    private static void chanceOfBust() {
        says("THE END is its VALUE then; 0, if it is BUST.");
        int[] any = cards(2);
        dueChance(table(any, 10, 6, 5), 0, 0, 1);
        dueChance(table(any, 10, 6, 6), 0, 1, 1);
        dueChance(table(17, 17, any, 10, 7, 7), 17, 1, 1);
        dueChance(table(17, 17, any, 10, 7, 7), 0, 0, 1);
        dueChance(table(17, 17, any, 10, 8, 8), 0, 1, 1);
        dueChance(table(17, 17, any, 10, 8, 8), 18, 0, 1);
        dueChance(table(11, 11, any, 10, 1, 2), 11, 1, 2);
        dueChance(table(11, 11, any, 10, 1, 2), 0, 1, 2);
        dueChance(table(11, 11, any, 10, 1, 2), 21, 0, 1);
    }

    private static void chancesAddUp() {
        says("each card that is left being as likely");
        for (int up = 1; up <= 10; up++) {
            ShoeTable x = table(cards(2), up, 1, 2, 3, 4, 6, 8, 10, 10);
            double all = x.chance(0, 0) / (double) x.chance(0, 1);
            for (int e = 2; e <= 21; e++) {
                all += x.chance(e, 0) / (double) x.chance(e, 1);
            }
            holds("all ends of " + up + ": " + all, Math.abs(all - 1) < 1e-9);
        }
        // 3, 4 and 10 in any order: 19, but for those that stand on the way.
        dueChance(table(21, 16, cards(2), 2, 3, 4, 10), 16, 1, 3);
        dueChance(table(21, 16, cards(2), 2, 3, 4, 10), 19, 2, 3);
        dueChance(table(21, 15, cards(2), 2, 3, 4, 10), 15, 1, 3);
        dueChance(table(21, 15, cards(2), 2, 3, 4, 10), 19, 1, 3);
        // Three tens of five: 20 in three of five times.
        dueChance(table(cards(2), 10, 10, 10, 10, 7, 7), 20, 3, 5);
        dueChance(table(cards(2), 10, 10, 10, 10, 7, 7), 17, 2, 5);
    }

    // ---- promise 17

    private static void dealParts() {
        says("WORTH of a DEAL, likewise. OUTSIDE");
        bound("deal(v)", Tables::busy, (x, v) -> x.deal(v), 0, 1);
        bound("deal(v) of two cards", () -> of(5, 5), (x, v) -> x.deal(v), 0, 1);
        bound("deal(v) of nine", () -> of(times(9, 5)), (x, v) -> x.deal(v), 0, 1);
    }

    private static void dealOfFewCards() {
        says("OUTSIDE; STATE: THE SHOE has fewer than three cards; LARGE.");
        refused("deal(0) of none", ShoeTable::new, x -> x.deal(0), STATE);
        refused("deal(0) of one", () -> of(10), x -> x.deal(0), STATE);
        refused("deal(0) of two", () -> of(10, 10), x -> x.deal(0), STATE);
        refused("deal(1) of two", () -> pairAndTens(2), x -> x.deal(1), STATE);
        // 20 against 11, or a natural against 10, twice.
        dueDeal(of(10, 10, 1), 8, 3);
    }

    private static void dealOfALargeShoe() {
        says(AT_MOST);
        dueDeal(of(times(8, 10)), 0, 1);
        refused("deal(0) of nine", () -> of(times(9, 10)), x -> x.deal(0), LARGE);
        refused("deal(1) of twelve", () -> pairAndTens(12), x -> x.deal(1), LARGE);
        refused("deal(1) of thirteen", () -> pairAndTens(13), x -> x.deal(1), LARGE);
        dueDeal(pairAndTens(8), 0, 1);
        refused("deal(0) of nine at the table", () -> pairAndTens(9), x -> x.deal(0), LARGE);
    }

    private static void dealOfBustCards() {
        says("its WORTH: the mean of those of THE BEST of all (-2 of two cards that are BUST).");
        dueDeal(aim(of(10, 10, 10), 19, 10), -2, 1);
        // Two tens are a natural of 20.
        dueDeal(aim(of(10, 10, 10), 20, 10), 3, 1);
        dueDeal(aim(of(10, 10, 10), 21, 10), 2, 1);
        // TARGET 11: 5, 6 is a natural against 7; 5, 7 and 6, 7 are bust.
        dueDeal(aim(of(5, 6, 7), 11, 10), -1, 3);
    }

    private static void dealWithoutTheTable() {
        says("(THE HAND, UP that are there are not looked at)");
        for (ShoeTable x : new ShoeTable[] {of(), table(cards(2, 2), 3), table(cards(10, 10, 10), 10),
            table(times(12, 1), 1), noUp(0), noHand(0)}) {
            int held = x.told(0);
            int up = x.told(5);
            add(x, 10, 10, 1);
            dueDeal(x, 8, 3);
            due("told(0)", x.told(0), held);
            due("told(5)", x.told(5), up);
        }
    }

    private static void dealOfTheBest() {
        says("its WORTH: the mean of those of THE BEST of all");
        // 4 against 10 gives up; 12 against 2 stands, twice.
        dueDeal(of(2, 2, 10), 1, 1);
        dueDeal(with(of(2, 2, 10), 5, 0), 2, 3);
        // One card more, all fives: 10 doubles to 15 against 5.
        dueDeal(of(5, 5, 5, 5), 4, 1);
        dueDeal(with(of(5, 5, 5, 5), 3, 0), 2, 1);
        // Two cards more: 10 and 10 of a split against 5, which both win, or 15 doubled against 10.
        dueDeal(of(5, 5, 5, 5, 5), 4, 1);
    }

    // ---- promise 18

    private static void movedParts() {
        says("WORTH of THE BEST ACT, if a card of a RANK were not in THE SHOE, less WORTH of that as it is, likewise.");
        for (int r = 1; r <= 10; r += 9) {
            int rank = r;
            bound("moved(" + rank + ", v)", Tables::busy, (x, v) -> x.moved(rank, v), 0, 1);
        }
        // As it is 0; with 10 alone GIVE UP is -1, with 5 alone DOUBLE is 4.
        dueMoved(table(cards(10, 6), 10, 10, 5), 5, -1, 1);
        dueMoved(table(cards(10, 6), 10, 10, 5), 10, 4, 1);
    }

    private static void movedOfNoCard() {
        says("OUTSIDE; STATE: there is no such card, or no ACT is THERE, as it is or then; LARGE.");
        for (int r = 1; r <= 9; r++) {
            int rank = r;
            refused("moved(" + r + ", 0)", () -> pairAndTens(3), x -> x.moved(rank, 0), STATE);
        }
        refused("moved(10, 0) of no cards", () -> pairAndTens(0), x -> x.moved(10, 0), STATE);
        holds("moved(10, 0) of one", pairAndTens(1).moved(10, 0) != STATE);
    }

    private static void movedOfNoAct() {
        says("STATE: there is no such card, or no ACT is THERE, as it is or then; LARGE.");
        refused("moved(10, 0), no UP", () -> noUp(3), x -> x.moved(10, 0), STATE);
        refused("moved(10, 0), no HAND", () -> noHand(3), x -> x.moved(10, 0), STATE);
        refused("moved(10, 1), bust", () -> bust(3), x -> x.moved(10, 1), STATE);
        refused("moved(10, 1), nothing at the table", () -> of(10, 10), x -> x.moved(10, 1), STATE);
    }

    private static void movedOfALargeShoe() {
        says(AT_MOST);
        dueMoved(pairAndTens(12), 10, 0, 1);
        refused("moved(10, 0) of 13", () -> pairAndTens(13), x -> x.moved(10, 0), LARGE);
        refused("moved(10, 1) of 14", () -> pairAndTens(14), x -> x.moved(10, 1), LARGE);
        says(ORDER);
        refused("moved(9, 0) of 13, no such card", () -> pairAndTens(13), x -> x.moved(9, 0), STATE);
        refused("moved(10, 0) of 13, bust", () -> bust(13), x -> x.moved(10, 0), STATE);
        refused("moved(0, 0) of 13, bust", () -> bust(13), x -> x.moved(0, 0), OUTSIDE);
        refused("moved(11, 0) of 13, bust", () -> bust(13), x -> x.moved(11, 0), OUTSIDE);
        refused("moved(9, 2) of 13, no such card", () -> pairAndTens(13), x -> x.moved(9, 2), OUTSIDE);
        refused("moved(9, -1) of 13, no such card", () -> pairAndTens(13), x -> x.moved(9, -1), OUTSIDE);
    }

    private static void movedOfTheLastCards() {
        says("WORTH of THE BEST ACT, if a card of a RANK were not in THE SHOE, less WORTH of that as it is, likewise.");
        // DRAW wins by the last card, without it 6 stands against 10.
        dueMoved(table(cards(2, 2, 2), 10, 10), 10, -4, 1);
        // SPLIT needs both tens: 4, then 16 stands against 15.
        dueMoved(table(cards(8, 8), 5, 10, 10), 10, -2, 1);
        // As good before and after.
        dueMoved(table(cards(10, 10), 5, 2), 2, 0, 1);
        // 18 against 17, 18 or 19 is 0; without 7 GIVE UP and STAND are -1, without 9 STAND is 1.
        dueMoved(table(cards(10, 8), 10, 7, 8, 9), 7, -1, 1);
        dueMoved(table(cards(10, 8), 10, 7, 8, 9), 8, 0, 1);
        dueMoved(table(cards(10, 8), 10, 7, 8, 9), 9, 1, 1);
    }

    // ---- promise 19

    private static void knownParts() {
        says("KNOWN BY THE COUNT: of a RANK, likewise. OUTSIDE");
        for (int r = 1; r <= 10; r += 9) {
            int rank = r;
            bound("known(" + rank + ", v)", Tables::busy, (x, v) -> x.known(rank, v), 0, 1);
        }
        ShoeTable x = of(2, 2, 3);
        x.draw(2);
        dueKnown(x, 2, 4, 3);
        dueKnown(x, 3, 2, 3);
    }

    private static ShoeTable toldSince(int rank, int n) {
        ShoeTable x = of(2, 2, 3);
        x.shoe(rank, n);
        return x;
    }

    private static void knownWhenShoeWasTold() {
        says("OUTSIDE; STATE: shoe() was told since fresh(); LARGE");
        refused("known(2, 0), one more", () -> toldSince(2, 3), x -> x.known(2, 0), STATE);
        refused("known(2, 1), one less", () -> toldSince(2, 1), x -> x.known(2, 1), STATE);
        refused("known(2, 0), as many", () -> toldSince(2, 2), x -> x.known(2, 0), STATE);
        refused("known(2, 0), none of another", () -> toldSince(9, 0), x -> x.known(2, 0), STATE);
        ShoeTable x = toldSince(9, 1);
        x.fresh();
        dueKnown(x, 2, 2, 1);
        dueKnown(x, 9, 1, 1);
        ShoeTable refused = of(2, 2, 3);
        refused.shoe(2, 33);
        refused.shoe(2, -1);
        refused.shoe(0, 1);
        refused.shoe(11, 1);
        dueKnown(refused, 2, 2, 1);
        ShoeTable never = new ShoeTable();
        never.shoe(2, 2);
        due("known(2, 0), never fresh", never.known(2, 0), STATE);
    }

    private static ShoeTable shoeOf(int ones, int tens) {
        ShoeTable x = new ShoeTable();
        x.shoe(1, ones);
        x.shoe(10, tens);
        x.fresh();
        return x;
    }

    private static ShoeTable andGone(ShoeTable x, int n, int rank) {
        for (int i = 0; i < n; i++) {
            x.take(rank, 2);
        }
        return x;
    }

    private static void knownOfALargeShoe() {
        says("LARGE: THE SHOE had more than 60 cards then, or more than 8 left it.");
        dueKnown(shoeOf(28, 31), 1, 28, 1);
        dueKnown(shoeOf(28, 32), 1, 28, 1);
        dueKnown(shoeOf(28, 32), 10, 32, 1);
        dueKnown(shoeOf(28, 32), 5, 0, 1);
        for (int r = 1; r <= 10; r++) {
            int rank = r;
            refused("known(" + r + ", 0) of 61", () -> shoeOf(29, 32), x -> x.known(rank, 0), LARGE);
        }
        // It is 61 cards that it had then, whatever is left.
        refused("known(1, 0) of 60 of 61", () -> andGone(shoeOf(29, 32), 1, 1), x -> x.known(1, 0), LARGE);
        ShoeTable x = andGone(shoeOf(29, 32), 1, 1);
        x.fresh();
        dueKnown(x, 1, 28, 1);
        // Eight of 60 leave 52 of 60 of each.
        dueKnown(andGone(shoeOf(28, 32), 8, 1), 1, 28 * 52 / 4, 15);
        dueKnown(andGone(shoeOf(28, 32), 8, 1), 10, 32 * 13, 15);
    }

    private static void knownOfManyThatLeft() {
        says("LARGE: THE SHOE had more than 60 cards then, or more than 8 left it.");
        dueKnown(andGone(shoeOf(10, 10), 7, 1), 1, 13, 2);
        dueKnown(andGone(shoeOf(10, 10), 8, 1), 1, 6, 1);
        refused("known(1, 0), nine", () -> andGone(shoeOf(10, 10), 9, 1), x -> x.known(1, 0), LARGE);
        refused("known(5, 1), nine", () -> andGone(shoeOf(10, 10), 9, 1), x -> x.known(5, 1), LARGE);
        ShoeTable drawn = shoeOf(10, 10);
        for (int i = 0; i < 8; i++) {
            drawn.draw(i % 3);
        }
        dueKnown(drawn, 1, 6, 1);
        drawn.draw(1);
        due("known(1, 0), nine drawn", drawn.known(1, 0), LARGE);
        // Seven are taken, the house draws one, and then one more.
        ShoeTable house = andGone(of(times(12, 9)), 5, 9);
        house.take(9, 0);
        house.take(9, 1);
        house.settle();
        due("told(8)", house.told(8), 8);
        dueKnown(house, 9, 4, 1);
        house.draw(2);
        due("known(9, 0), nine", house.known(9, 0), LARGE);
        house.fresh();
        dueKnown(house, 9, 3, 1);
    }

    private static void knownRefusedInOrder() {
        says(ORDER);
        ShoeTable large = shoeOf(29, 32);
        large.shoe(5, 1);
        due("known(0, 0), told, 61", large.known(0, 0), OUTSIDE);
        due("known(11, 0), told, 61", large.known(11, 0), OUTSIDE);
        due("known(1, 2), told, 61", large.known(1, 2), OUTSIDE);
        due("known(1, -1), told, 61", large.known(1, -1), OUTSIDE);
        due("known(1, 0), told, 61", large.known(1, 0), STATE);
        ShoeTable many = andGone(shoeOf(10, 10), 9, 1);
        many.shoe(1, 1);
        due("known(1, 0), told, nine", many.known(1, 0), STATE);
        refused("known(0, 0) of 61", () -> shoeOf(29, 32), x -> x.known(0, 0), OUTSIDE);
        refused("known(1, 2), nine", () -> andGone(shoeOf(10, 10), 9, 1), x -> x.known(1, 2), OUTSIDE);
        refused("known(1, 2), told", () -> toldSince(2, 2), x -> x.known(1, 2), OUTSIDE);
    }

    private static void knownOfNoneAndOfAll() {
        says("the mean of how many cards of a RANK THE SHOE has then.");
        ShoeTable empty = new ShoeTable();
        empty.fresh();
        for (int r = 1; r <= 10; r++) {
            dueKnown(empty, r, 0, 1);
            dueKnown(of(times(32 / r, r)), r, 32 / r, 1);
        }
        // All are gone: none of any is there.
        ShoeTable all = of(4, 4, 4, 7, 7, 7, 7, 7);
        for (int i = 0; i < 8; i++) {
            all.draw(2);
        }
        dueKnown(all, 4, 0, 1);
        dueKnown(all, 7, 0, 1);
        // Other cards gone, one of a RANK left for sure.
        dueKnown(andGone(of(9, 9, 9, 9), 3, 9), 9, 1, 1);
    }

    private static void knownByWays() {
        says("with MARKS that sum up to THE COUNT, each as likely as its ways to be drawn");
        ShoeTable x = of(2, 2, 2, 3, 10, 10);
        x.mark(2, 1);
        x.mark(3, 1);
        x.mark(10, -1);
        x.take(3, 2);
        // One of four cards of mark 1, three of which are a 2.
        dueKnown(x, 2, 9, 4);
        dueKnown(x, 3, 3, 4);
        dueKnown(x, 10, 2, 1);
        x.take(10, 2);
        // One of those, and a ten: 0 in all.
        dueKnown(x, 2, 9, 4);
        dueKnown(x, 10, 1, 1);
        x.mark(10, 1);
        // Marks as they are: any two of six cards.
        dueKnown(x, 2, 2, 1);
        dueKnown(x, 3, 2, 3);
        dueKnown(x, 10, 4, 3);
        x.mark(3, 3);
        // 4 in all: the 3, and one of the five others.
        dueKnown(x, 3, 0, 1);
        dueKnown(x, 2, 12, 5);
        dueKnown(x, 10, 8, 5);
    }

    private static void knownByTheFarthestSums() {
        says("MARKS of RANKS (-3 .. 3; 0 at first).");
        for (int mark = -3; mark <= 3; mark += 6) {
            ShoeTable x = shoeOf(20, 20);
            x.shoe(5, 20);
            x.fresh();
            x.mark(1, mark);
            x.mark(10, -mark);
            andGone(x, 8, 1);
            due("told(6)", x.told(6), 8 * mark);
            dueKnown(x, 1, 12, 1);
            dueKnown(x, 10, 20, 1);
            dueKnown(x, 5, 20, 1);
            x.fresh();
            andGone(x, 4, 1);
            andGone(x, 4, 10);
            due("told(6)", x.told(6), 0);
            // As many of the one as of the other: the same mean.
            due("known(1, 0) and known(10, 0)", x.known(10, 0) - 8 * x.known(10, 1), x.known(1, 0));
        }
    }
}
