/** Boundary cases of the shoe and the rules: promises 1 to 6, and what the terms say of them. */
public final class ShoeBoundsTest extends Check {
    private static final int[] FIRST_RULES = {21, 17, 0, 1, 1, 1, 3};

    public static void main(String[] args) {
        nothingAtFirst();
        noCardsAtFirst();
        rulesAtFirst();
        marksAtFirst();
        drawAndBankAtFirst();
        objectsAreApart();
        ranksOfShoe();
        cardsOfARank();
        shoeTellsWhatItHad();
        shoeIsNotALeaving();
        freshCounts();
        freshForgetsWhatLeft();
        freshForgetsWhatCame();
        freshEmptiesTheTable();
        freshKeepsTheRest();
        whichRule();
        targetBounds();
        standsBounds();
        standsAboveTarget();
        switchBounds();
        bonusBounds();
        ruleTellsWhatItWas();
        markBounds();
        markTellsWhatItWas();
        leftBounds();
        leftAsksOnly();
        end();
    }

    // ---- promise 1

    private static void nothingAtFirst() {
        says("An empty SHOE, no HAND, no UP; RULES as at first.");
        ShoeTable x = new ShoeTable();
        due("left(0)", x.left(0), 0);
        due("told(0)", x.told(0), 0);
        due("told(1)", x.told(1), 0);
        due("told(2)", x.told(2), 0);
        due("told(3)", x.told(3), 0);
        due("told(4)", x.told(4), 0);
        due("told(5)", x.told(5), NONE);
        due("told(8)", x.told(8), 0);
        for (int what = 10; what <= 21; what++) {
            due("told(" + what + ")", x.told(what), NONE);
        }
        due("lay()", x.lay(), 0);
        refused("draw(0)", ShoeTable::new, t -> t.draw(0), STATE);
        refused("take(1, 0)", ShoeTable::new, t -> t.take(1, 0), STATE);
        refused("settle()", ShoeTable::new, ShoeTable::settle, STATE);
        refused("best()", ShoeTable::new, ShoeTable::best, STATE);
        refused("chance(0, 0)", ShoeTable::new, t -> t.chance(0, 0), STATE);
        refused("deal(0)", ShoeTable::new, t -> t.deal(0), STATE);
        refused("moved(1, 0)", ShoeTable::new, t -> t.moved(1, 0), STATE);
    }

    private static void noCardsAtFirst() {
        says("(0 .. 32 each; none at first)");
        ShoeTable x = new ShoeTable();
        for (int r = 1; r <= 10; r++) {
            due("left(" + r + ")", x.left(r), 0);
            due("shoe(" + r + ", 1)", x.shoe(r, 1), 0);
        }
    }

    private static void rulesAtFirst() {
        says("RULES: TARGET (11 .. 21; 21 at first), STANDS (10 .. TARGET; 17), SOFTLY (0, 1; 0), "
            + "DOUBLES, SPLITS, GIVES (0, 1; 1 each), BONUS (2 .. 4; 3).");
        for (int what = 0; what <= 6; what++) {
            due("rule(" + what + ", ..)", new ShoeTable().rule(what, FIRST_RULES[what]), FIRST_RULES[what]);
        }
    }

    private static void marksAtFirst() {
        says("MARKS of RANKS (-3 .. 3; 0 at first).");
        ShoeTable x = new ShoeTable();
        for (int r = 1; r <= 10; r++) {
            due("mark(" + r + ", 3)", x.mark(r, 3), 0);
        }
    }

    private static void drawAndBankAtFirst() {
        says("THE DRAW: a long (1 at first)");
        ShoeTable x = of(1, 2, 3, 4, 5, 6, 7, 8, 9, 10);
        ShoeTable y = of(1, 2, 3, 4, 5, 6, 7, 8, 9, 10);
        y.seed(1);
        for (int i = 0; i < 10; i++) {
            due("draw(2)", x.draw(2), y.draw(2));
        }
        says("THE BANK (0 at first) has what was settled by settle(), in halves.");
        due("told(7)", new ShoeTable().told(7), 0);
    }

    private static void objectsAreApart() {
        says("An empty SHOE, no HAND, no UP; RULES as at first.");
        ShoeTable before = new ShoeTable();
        busy();
        holds("a new object beside a busy one", seen(before).equals(seen(new ShoeTable())));
    }

    // ---- promise 2

    private static void ranksOfShoe() {
        says("==== 1 RANKS 1 to 10.");
        bound("shoe(v, 1)", Tables::busy, (x, v) -> x.shoe(v, 1), 1, 10);
        bound("mark(v, 1)", Tables::busy, (x, v) -> x.mark(v, 1), 1, 10);
        bound("take(v, 0)", Tables::busy, (x, v) -> x.take(v, 0), 1, 10);
        bound("moved(v, 0)", Tables::busy, (x, v) -> x.moved(v, 0), 1, 10);
        bound("known(v, 0)", Tables::busy, (x, v) -> x.known(v, 0), 1, 10);
        outside("shoe(v, 0)", ShoeTable::new, (x, v) -> x.shoe(v, 0), 0);
        outside("shoe(v, 32)", ShoeTable::new, (x, v) -> x.shoe(v, 32), 11);
    }

    private static void cardsOfARank() {
        says("THE SHOE has n cards (0 .. 32) of a RANK: how many it had. OUTSIDE.");
        bound("shoe(1, v)", Tables::busy, (x, v) -> x.shoe(1, v), 0, 32);
        bound("shoe(10, v)", ShoeTable::new, (x, v) -> x.shoe(10, v), 0, 32);
        for (int n : new int[] {0, 1, 31, 32}) {
            ShoeTable x = new ShoeTable();
            x.shoe(4, n);
            due("left(4)", x.left(4), n);
            due("left(0)", x.left(0), n);
        }
    }

    private static void shoeTellsWhatItHad() {
        says("THE SHOE has n cards (0 .. 32) of a RANK: how many it had. OUTSIDE.");
        ShoeTable x = new ShoeTable();
        due("shoe(3, 32)", x.shoe(3, 32), 0);
        due("shoe(3, 31)", x.shoe(3, 31), 32);
        x.take(3, 2);
        due("shoe(3, 0)", x.shoe(3, 0), 30);
        due("shoe(3, 0)", x.shoe(3, 0), 0);
        due("left(0)", x.left(0), 0);
        refused("take(3, 2)", () -> of(1, 2), t -> t.take(3, 2), STATE);
    }

    private static void shoeIsNotALeaving() {
        says("(What left it does not change.)");
        ShoeTable x = of(5, 5, 5, 6);
        x.mark(5, 2);
        x.mark(6, -3);
        x.take(5, 0);
        x.take(6, 2);
        x.shoe(5, 0);
        due("told(8), cards put away", x.told(8), 2);
        due("told(6), cards put away", x.told(6), -1);
        x.shoe(5, 32);
        due("told(8), cards put in", x.told(8), 2);
        due("told(6), cards put in", x.told(6), -1);
        due("told(0), THE HAND stays", x.told(0), 1);
    }

    // ---- promise 3

    private static void freshCounts() {
        says("THE HAND, UP are empty: how many cards it has.");
        due("fresh() of no cards", new ShoeTable().fresh(), 0);
        due("fresh() of one", of(7).fresh(), 1);
        ShoeTable x = new ShoeTable();
        for (int r = 1; r <= 10; r++) {
            x.shoe(r, 32);
        }
        due("fresh() of all", x.fresh(), 320);
        x.draw(0);
        due("fresh() of one less", x.fresh(), 319);
    }

    private static void freshForgetsWhatLeft() {
        says("THE SHOE is FRESH: what left it, and what came meanwhile, is forgotten");
        ShoeTable x = of(2, 2, 2, 3, 3);
        x.mark(2, 3);
        x.take(2, 2);
        x.take(3, 2);
        due("told(8)", x.told(8), 2);
        due("told(6)", x.told(6), 3);
        due("fresh(), they do not come back", x.fresh(), 3);
        due("told(8)", x.told(8), 0);
        due("told(6)", x.told(6), 0);
        due("known(2, 0)", x.known(2, 0), 2);
        due("known(3, 0)", x.known(3, 0), 1);
        x.take(2, 2);
        due("told(8)", x.told(8), 1);
        due("told(6)", x.told(6), 3);
    }

    private static void freshForgetsWhatCame() {
        says("THE SHOE is FRESH: what left it, and what came meanwhile, is forgotten");
        ShoeTable x = of(2, 2, 2);
        x.shoe(4, 7);
        due("known(4, 0) before", x.known(4, 0), STATE);
        x.fresh();
        due("known(4, 0)", x.known(4, 0), 7);
        due("known(4, 1)", x.known(4, 1), 1);
    }

    private static void freshEmptiesTheTable() {
        says("THE HAND, UP are empty: how many cards it has.");
        ShoeTable x = busy();
        x.fresh();
        due("told(0)", x.told(0), 0);
        due("told(1)", x.told(1), 0);
        due("told(5)", x.told(5), NONE);
        due("told(10)", x.told(10), NONE);
        due("there(0)", x.there(0), 0);
        due("lay()", x.lay(), 0);
        ShoeTable full = table(times(12, 1), 5, 2, 3);
        full.fresh();
        due("told(0) of a full one", full.told(0), 0);
        due("take(2, 0) then", full.take(2, 0), 1);
    }

    private static void freshKeepsTheRest() {
        says("THE SHOE is FRESH: what left it, and what came meanwhile, is forgotten");
        ShoeTable x = busy();
        ShoeTable y = busy();
        x.fresh();
        due("THE BANK", x.told(7), y.told(7));
        for (int r = 0; r <= 10; r++) {
            due("left(" + r + ")", x.left(r), y.left(r));
        }
        for (int i = 0; i < 4; i++) {
            due("THE DRAW", x.draw(2), y.draw(2));
        }
        int[] rules = {20, 16, 1, 1, 1, 1, 4};
        for (int what = 0; what <= 6; what++) {
            due("rule(" + what + ", ..)", x.rule(what, rules[what]), rules[what]);
        }
        for (int r = 1; r <= 10; r++) {
            due("mark(" + r + ", 0)", x.mark(r, 0), r % 7 - 3);
        }
    }

    // ---- promise 4

    private static void whichRule() {
        says("What = 0 TARGET, 1 STANDS, 2 SOFTLY, 3 DOUBLES, 4 SPLITS, 5 GIVES, 6 BONUS becomes v: what it was.");
        for (int other = 0; other <= 4; other++) {
            int o = other;
            // Within the bound each rule gets a number that it can have: only the first one is looked at.
            bound("rule(v, " + o + ")", Tables::busy,
                (x, v) -> x.rule(v, v >= 0 && v <= 6 ? FIRST_RULES[v] : o), 0, 6);
        }
        outside("rule(v, 17)", Tables::busy, (x, v) -> x.rule(v, 17), -1);
        outside("rule(v, 17)", Tables::busy, (x, v) -> x.rule(v, 17), 7);
    }

    private static void targetBounds() {
        says("TARGET (11 .. 21; 21 at first)");
        bound("rule(0, v)", () -> aim(busy(), 21, 10), (x, v) -> x.rule(0, v), 11, 21);
    }

    private static void standsBounds() {
        says("STANDS (10 .. TARGET; 17)");
        for (int target = 11; target <= 21; target++) {
            int t = target;
            bound("rule(1, v), TARGET " + t, () -> aim(busy(), t, 10), (x, v) -> x.rule(1, v), 10, t);
        }
    }

    private static void standsAboveTarget() {
        says("OUTSIDE (also STANDS above TARGET then).");
        for (int stands = 11; stands <= 21; stands++) {
            int s = stands;
            bound("rule(0, v), STANDS " + s, () -> aim(busy(), 21, s), (x, v) -> x.rule(0, v), s, 21);
        }
        outside("rule(0, v), STANDS 10", () -> aim(busy(), 21, 10), (x, v) -> x.rule(0, v), 10);
    }

    private static void switchBounds() {
        says("SOFTLY (0, 1; 0), DOUBLES, SPLITS, GIVES (0, 1; 1 each)");
        for (int what = 2; what <= 5; what++) {
            int w = what;
            bound("rule(" + w + ", v)", Tables::busy, (x, v) -> x.rule(w, v), 0, 1);
        }
    }

    private static void bonusBounds() {
        says("BONUS (2 .. 4; 3)");
        bound("rule(6, v)", Tables::busy, (x, v) -> x.rule(6, v), 2, 4);
    }

    private static void ruleTellsWhatItWas() {
        says("6 BONUS becomes v: what it was. OUTSIDE (also STANDS above TARGET then).");
        ShoeTable x = new ShoeTable();
        due("rule(1, 10)", x.rule(1, 10), 17);
        due("rule(1, 21)", x.rule(1, 21), 10);
        due("rule(1, 10)", x.rule(1, 10), 21);
        due("rule(0, 11)", x.rule(0, 11), 21);
        due("rule(1, 11)", x.rule(1, 11), 10);
        due("rule(0, 21)", x.rule(0, 21), 11);
        for (int what = 2; what <= 5; what++) {
            due("rule(" + what + ", 0)", x.rule(what, 0), FIRST_RULES[what]);
            due("rule(" + what + ", 1)", x.rule(what, 1), 0);
            due("rule(" + what + ", 1)", x.rule(what, 1), 1);
        }
        due("rule(6, 2)", x.rule(6, 2), 3);
        due("rule(6, 4)", x.rule(6, 4), 2);
        due("rule(6, 4)", x.rule(6, 4), 4);
    }

    // ---- promise 5

    private static void markBounds() {
        says("MARKS of RANKS (-3 .. 3; 0 at first).");
        bound("mark(1, v)", Tables::busy, (x, v) -> x.mark(1, v), -3, 3);
        bound("mark(10, v)", ShoeTable::new, (x, v) -> x.mark(10, v), -3, 3);
    }

    private static void markTellsWhatItWas() {
        says("MARK of a RANK becomes v: what it was. OUTSIDE.");
        for (int r = 1; r <= 10; r++) {
            ShoeTable x = new ShoeTable();
            due("mark(" + r + ", -3)", x.mark(r, -3), 0);
            due("mark(" + r + ", 3)", x.mark(r, 3), -3);
            due("mark(" + r + ", 3)", x.mark(r, 3), 3);
            for (int other = 1; other <= 10; other++) {
                due("mark(" + other + ", 0)", x.mark(other, 0), other == r ? 3 : 0);
            }
        }
    }

    // ---- promise 6

    private static void leftBounds() {
        says("How many cards of a RANK THE SHOE has (rank = 0: of all). OUTSIDE.");
        bound("left(v)", Tables::busy, (x, v) -> x.left(v), 0, 10);
        ShoeTable x = new ShoeTable();
        for (int r = 1; r <= 10; r++) {
            x.shoe(r, r + 22);
        }
        int all = 0;
        for (int r = 1; r <= 10; r++) {
            due("left(" + r + ")", x.left(r), r + 22);
            all += r + 22;
        }
        due("left(0)", x.left(0), all);
        x.take(10, 0);
        x.draw(1);
        x.take(1, 2);
        due("left(0), three left", x.left(0), all - 3);
        for (int r = 1; r <= 10; r++) {
            x.shoe(r, 32);
        }
        due("left(0) of all", x.left(0), 320);
    }

    private static void leftAsksOnly() {
        says("How many cards of a RANK THE SHOE has (rank = 0: of all). OUTSIDE.");
        onlyAsks("left(0)", Tables::busy, x -> x.left(0));
        onlyAsks("left(10)", Tables::busy, x -> x.left(10));
    }
}
