import java.math.BigInteger;
import java.util.ArrayList;
import java.util.HashMap;
import java.util.List;
import java.util.Map;
import java.util.TreeMap;

/**
 * The document once more, written for plainness: shoes are lists of cards, worths are fractions of
 * BigIntegers, the house answers with a whole table of ends, and heaps are listed one by one.
 */
final class Model {
    static final int NONE = -1, OUTSIDE = -1001, STATE = -1002, FULL = -1003, LARGE = -1004;

    record Fraction(BigInteger upper, BigInteger lower) {
        static final Fraction ZERO = of(0, 1);

        static Fraction of(long upper, long lower) {
            return of(BigInteger.valueOf(upper), BigInteger.valueOf(lower));
        }

        static Fraction of(BigInteger upper, BigInteger lower) {
            BigInteger g = upper.gcd(lower);
            return new Fraction(upper.divide(g), lower.divide(g));
        }

        Fraction plus(Fraction o) {
            return of(upper.multiply(o.lower).add(o.upper.multiply(lower)), lower.multiply(o.lower));
        }

        Fraction times(long up, long low) {
            return of(upper.multiply(BigInteger.valueOf(up)), lower.multiply(BigInteger.valueOf(low)));
        }

        boolean above(Fraction o) {
            return upper.multiply(o.lower).compareTo(o.upper.multiply(lower)) > 0;
        }

        long part(int what) {
            return (what == 0 ? upper : lower).longValueExact();
        }
    }

    private final List<Integer> shoe = new ArrayList<>();
    private List<Integer> shoeAtFresh = new ArrayList<>();
    private final List<Integer> gone = new ArrayList<>();
    private final List<Integer> hand = new ArrayList<>();
    private final int[] rules = {21, 17, 0, 1, 1, 1, 3};
    private final int[] marks = new int[11];
    private int up = NONE;
    private int bank;
    private long theDraw = 1;
    private boolean shoeTold;
    private Map<String, Map<Integer, Fraction>> endsFound = new HashMap<>();

    // ---- words of the document

    private int target() {
        return rules[0];
    }

    private static int sum(List<Integer> cards) {
        int sum = 0;
        for (int c : cards) {
            sum += c;
        }
        return sum;
    }

    private boolean soft(List<Integer> cards) {
        return cards.contains(1) && sum(cards) + 10 <= target();
    }

    private int value(List<Integer> cards) {
        return sum(cards) + (soft(cards) ? 10 : 0);
    }

    private boolean bust(List<Integer> cards) {
        return value(cards) > target();
    }

    private boolean houseDraws(List<Integer> house) {
        int v = value(house);
        return v < rules[1] || (v == rules[1] && soft(house) && rules[2] == 1);
    }

    private int settled(List<Integer> cards, boolean bySplit, int end) {
        if (bust(cards)) {
            return -2;
        }
        int v = value(cards);
        boolean natural = cards.size() == 2 && v == target() && !bySplit;
        return end < v ? (natural ? rules[6] : 2) : end > v ? -2 : 0;
    }

    private static List<Integer> with(List<Integer> cards, int card) {
        List<Integer> more = new ArrayList<>(cards);
        more.add(card);
        return more;
    }

    private static List<Integer> without(List<Integer> cards, int card) {
        List<Integer> fewer = new ArrayList<>(cards);
        fewer.remove(Integer.valueOf(card));
        return fewer;
    }

    private static int count(List<Integer> cards, int rank) {
        int n = 0;
        for (int c : cards) {
            n += c == rank ? 1 : 0;
        }
        return n;
    }

    private static Map<Integer, Integer> kinds(List<Integer> cards) {
        Map<Integer, Integer> kinds = new TreeMap<>();
        for (int c : cards) {
            kinds.merge(c, 1, Integer::sum);
        }
        return kinds;
    }

    /** The chance of each end. */
    private Map<Integer, Fraction> ends(List<Integer> house, List<Integer> left) {
        if (left.isEmpty() || !houseDraws(house)) {
            return Map.of(bust(house) ? 0 : value(house), Fraction.of(1, 1));
        }
        String key = sum(house) + "/" + house.contains(1) + "/" + kinds(left);
        Map<Integer, Fraction> found = endsFound.get(key);
        if (found != null) {
            return found;
        }
        Map<Integer, Fraction> all = new TreeMap<>();
        kinds(left).forEach((card, n) -> ends(with(house, card), without(left, card)).forEach(
            (end, chance) -> all.merge(end, chance.times(n, left.size()), Fraction::plus)));
        endsFound.put(key, all);
        return all;
    }

    private Fraction stand(List<Integer> cards, int house, List<Integer> left) {
        Fraction mean = Fraction.ZERO;
        for (Map.Entry<Integer, Fraction> e : ends(List.of(house), left).entrySet()) {
            mean = mean.plus(e.getValue().times(settled(cards, false, e.getKey()), 1));
        }
        return mean;
    }

    private Fraction drawOne(List<Integer> cards, int house, List<Integer> left) {
        Fraction mean = Fraction.ZERO;
        for (Map.Entry<Integer, Integer> k : kinds(left).entrySet()) {
            List<Integer> now = with(cards, k.getKey());
            List<Integer> rest = without(left, k.getKey());
            Fraction worth;
            if (bust(now)) {
                worth = Fraction.of(-2, 1);
            } else {
                worth = stand(now, house, rest);
                if (!rest.isEmpty()) {
                    Fraction more = drawOne(now, house, rest);
                    worth = more.above(worth) ? more : worth;
                }
            }
            mean = mean.plus(worth.times(k.getValue(), left.size()));
        }
        return mean;
    }

    private Fraction doubled(List<Integer> cards, int house, List<Integer> left) {
        Fraction mean = Fraction.ZERO;
        for (int card : left) {
            mean = mean.plus(stand(with(cards, card), house, without(left, card)).times(2, left.size()));
        }
        return mean;
    }

    private Fraction split(List<Integer> cards, int house, List<Integer> left) {
        Fraction mean = Fraction.ZERO;
        for (int first : left) {
            List<Integer> rest = without(left, first);
            for (int second : rest) {
                List<Integer> one = List.of(cards.get(0), first);
                List<Integer> two = List.of(cards.get(1), second);
                for (Map.Entry<Integer, Fraction> e : ends(List.of(house), without(rest, second)).entrySet()) {
                    int halves = settled(one, true, e.getKey()) + settled(two, true, e.getKey());
                    mean = mean.plus(e.getValue().times(halves, (long) left.size() * rest.size()));
                }
            }
        }
        return mean;
    }

    private boolean isThere(int act, List<Integer> cards, int house, List<Integer> left) {
        if (cards.isEmpty() || bust(cards) || house == NONE) {
            return false;
        }
        boolean two = cards.size() == 2;
        return switch (act) {
            case 0 -> true;
            case 1 -> !left.isEmpty() && cards.size() < 12;
            case 2 -> two && rules[3] == 1 && !left.isEmpty();
            case 3 -> two && cards.get(0).equals(cards.get(1)) && rules[4] == 1 && left.size() >= 2;
            default -> two && rules[5] == 1;
        };
    }

    private Fraction worthOf(int act, List<Integer> cards, int house, List<Integer> left) {
        return switch (act) {
            case 0 -> stand(cards, house, left);
            case 1 -> drawOne(cards, house, left);
            case 2 -> doubled(cards, house, left);
            case 3 -> split(cards, house, left);
            default -> Fraction.of(-1, 1);
        };
    }

    private int bestOf(List<Integer> cards, int house, List<Integer> left) {
        int best = NONE;
        Fraction greatest = null;
        for (int act = 0; act <= 4; act++) {
            if (isThere(act, cards, house, left)) {
                Fraction worth = worthOf(act, cards, house, left);
                if (greatest == null || worth.above(greatest)) {
                    best = act;
                    greatest = worth;
                }
            }
        }
        return best;
    }

    private int drawCard() {
        theDraw = theDraw * 6364136223846793005L + 1442695040888963407L;
        List<Integer> rising = new ArrayList<>(shoe);
        rising.sort(null);
        int card = rising.get((int) ((theDraw >>> 33) % rising.size()));
        leaves(card);
        return card;
    }

    private void leaves(int card) {
        shoe.remove(Integer.valueOf(card));
        gone.add(card);
    }

    private void bring(int card, int to) {
        if (to == 0) {
            hand.add(card);
        } else if (to == 1) {
            up = card;
        }
    }

    private int theCount() {
        int sum = 0;
        for (int c : gone) {
            sum += marks[c];
        }
        return sum;
    }

    private static boolean out(int v, int least, int most) {
        return v < least || v > most;
    }

    private static boolean notPart(int what) {
        return out(what, 0, 1);
    }

    // ---- the face

    int shoe(int rank, int n) {
        if (out(rank, 1, 10) || out(n, 0, 32)) {
            return OUTSIDE;
        }
        int had = count(shoe, rank);
        shoe.removeIf(c -> c == rank);
        for (int i = 0; i < n; i++) {
            shoe.add(rank);
        }
        shoeTold = true;
        return had;
    }

    int fresh() {
        gone.clear();
        hand.clear();
        up = NONE;
        shoeTold = false;
        shoeAtFresh = new ArrayList<>(shoe);
        return shoe.size();
    }

    int rule(int what, int v) {
        boolean bad = switch (what) {
            case 0 -> out(v, Math.max(11, rules[1]), 21);
            case 1 -> out(v, 10, rules[0]);
            case 2, 3, 4, 5 -> out(v, 0, 1);
            case 6 -> out(v, 2, 4);
            default -> true;
        };
        if (bad) {
            return OUTSIDE;
        }
        int was = rules[what];
        rules[what] = v;
        return was;
    }

    int mark(int rank, int v) {
        if (out(rank, 1, 10) || out(v, -3, 3)) {
            return OUTSIDE;
        }
        int was = marks[rank];
        marks[rank] = v;
        return was;
    }

    int left(int rank) {
        return out(rank, 0, 10) ? OUTSIDE : rank == 0 ? shoe.size() : count(shoe, rank);
    }

    int take(int rank, int to) {
        if (out(rank, 1, 10) || out(to, 0, 2)) {
            return OUTSIDE;
        }
        if (!shoe.contains(rank)) {
            return STATE;
        }
        if (to == 0 && hand.size() == 12) {
            return FULL;
        }
        leaves(rank);
        bring(rank, to);
        return hand.size();
    }

    int draw(int to) {
        if (out(to, 0, 2)) {
            return OUTSIDE;
        }
        if (shoe.isEmpty()) {
            return STATE;
        }
        if (to == 0 && hand.size() == 12) {
            return FULL;
        }
        int card = drawCard();
        bring(card, to);
        return card;
    }

    int seed(int v) {
        theDraw = v;
        return 1;
    }

    int lay() {
        int n = hand.size() + (up == NONE ? 0 : 1);
        hand.clear();
        up = NONE;
        return n;
    }

    int told(int what) {
        if (what >= 10 && what <= 21) {
            return what - 10 < hand.size() ? hand.get(what - 10) : NONE;
        }
        return switch (what) {
            case 0 -> hand.size();
            case 1 -> value(hand);
            case 2 -> soft(hand) ? 1 : 0;
            case 3 -> hand.size() == 2 && value(hand) == target() ? 1 : 0;
            case 4 -> bust(hand) ? 1 : 0;
            case 5 -> up;
            case 6 -> theCount();
            case 7 -> bank;
            case 8 -> gone.size();
            default -> OUTSIDE;
        };
    }

    int settle() {
        if (hand.isEmpty() || up == NONE) {
            return STATE;
        }
        List<Integer> house = new ArrayList<>(List.of(up));
        while (!bust(hand) && !shoe.isEmpty() && houseDraws(house)) {
            house.add(drawCard());
        }
        int halves = settled(hand, false, bust(house) ? 0 : value(house));
        bank += halves;
        lay();
        return halves;
    }

    int there(int act) {
        return out(act, 0, 4) ? OUTSIDE : isThere(act, hand, up, shoe) ? 1 : 0;
    }

    long worth(int act, int what) {
        if (out(act, 0, 4) || notPart(what)) {
            return OUTSIDE;
        }
        if (!isThere(act, hand, up, shoe)) {
            return STATE;
        }
        if (shoe.size() > 12) {
            return LARGE;
        }
        endsFound = new HashMap<>();
        return worthOf(act, hand, up, shoe).part(what);
    }

    int best() {
        if (!isThere(0, hand, up, shoe)) {
            return STATE;
        }
        if (shoe.size() > 12) {
            return LARGE;
        }
        endsFound = new HashMap<>();
        return bestOf(hand, up, shoe);
    }

    long chance(int e, int what) {
        if (out(e, 0, 21) || e == 1 || notPart(what)) {
            return OUTSIDE;
        }
        if (up == NONE) {
            return STATE;
        }
        if (shoe.size() > 12) {
            return LARGE;
        }
        endsFound = new HashMap<>();
        return ends(List.of(up), shoe).getOrDefault(e, Fraction.ZERO).part(what);
    }

    long deal(int what) {
        if (notPart(what)) {
            return OUTSIDE;
        }
        if (shoe.size() < 3) {
            return STATE;
        }
        if (shoe.size() > 8) {
            return LARGE;
        }
        endsFound = new HashMap<>();
        Fraction mean = Fraction.ZERO;
        long deals = (long) shoe.size() * (shoe.size() - 1) * (shoe.size() - 2);
        Map<String, Fraction> found = new HashMap<>();
        for (int a : shoe) {
            List<Integer> afterA = without(shoe, a);
            for (int b : afterA) {
                List<Integer> afterB = without(afterA, b);
                for (int house : afterB) {
                    List<Integer> two = List.of(a, b);
                    List<Integer> left = without(afterB, house);
                    Fraction worth = found.computeIfAbsent(a + " " + b + " " + house, k -> bust(two)
                        ? Fraction.of(-2, 1) : worthOf(bestOf(two, house, left), two, house, left));
                    mean = mean.plus(worth.times(1, deals));
                }
            }
        }
        return mean.part(what);
    }

    long moved(int rank, int what) {
        if (out(rank, 1, 10) || notPart(what)) {
            return OUTSIDE;
        }
        if (!shoe.contains(rank) || !isThere(0, hand, up, shoe)) {
            return STATE;
        }
        if (shoe.size() > 12) {
            return LARGE;
        }
        endsFound = new HashMap<>();
        List<Integer> fewer = without(shoe, rank);
        Fraction now = worthOf(bestOf(hand, up, shoe), hand, up, shoe);
        Fraction then = worthOf(bestOf(hand, up, fewer), hand, up, fewer);
        return then.plus(now.times(-1, 1)).part(what);
    }

    long known(int rank, int what) {
        if (out(rank, 1, 10) || notPart(what)) {
            return OUTSIDE;
        }
        if (shoeTold) {
            return STATE;
        }
        if (shoeAtFresh.size() > 60 || gone.size() > 8) {
            return LARGE;
        }
        BigInteger[] sums = {BigInteger.ZERO, BigInteger.ZERO};
        listHeaps(1, gone.size(), theCount(), BigInteger.ONE, 0, rank, sums);
        return Fraction.of(sums[0], sums[1]).part(what);
    }

    /** Sums up the ways of all heaps, and the ways times what is left of the rank that is asked. */
    private void listHeaps(int rank, int cards, int sum, BigInteger ways, int left, int asked, BigInteger[] sums) {
        if (rank == 11) {
            if (cards == 0 && sum == 0) {
                sums[0] = sums[0].add(ways.multiply(BigInteger.valueOf(left)));
                sums[1] = sums[1].add(ways);
            }
            return;
        }
        int had = count(shoeAtFresh, rank);
        BigInteger choices = BigInteger.ONE;
        for (int n = 0; n <= had && n <= cards; n++) {
            int leftNow = rank == asked ? had - n : left;
            listHeaps(rank + 1, cards - n, sum - n * marks[rank], ways.multiply(choices), leftNow, asked, sums);
            choices = choices.multiply(BigInteger.valueOf(had - n)).divide(BigInteger.valueOf(n + 1));
        }
    }
}
