import java.util.Arrays;

/**
 * A shoe of cards and a table at which one player plays against the house. Every worth and every
 * chance is exact: it is reckoned over all orders in which the cards that are left can come.
 */
public final class ShoeTable {
    public static final int NONE = -1, OUTSIDE = -1001, STATE = -1002, FULL = -1003, LARGE = -1004;

    private static final int RANKS = 10;
    private static final int ACE = 1;
    private static final int MOST_OF_A_RANK = 32;
    private static final int MOST_OF_SHOE = 320;
    private static final int MOST_IN_HAND = 12;
    private static final int MOST_TARGET = 21;
    private static final int MOST_MARK = 3;
    private static final int MOST_FOR_WORTHS = 12;
    private static final int MOST_FOR_A_DEAL = 8;
    private static final int LEAST_FOR_A_DEAL = 3;
    private static final int MOST_KNOWN_CARDS = 60;
    private static final int MOST_KNOWN_GONE = 8;

    private static final int TO_HAND = 0;
    private static final int TO_UP = 1;
    private static final int TO_ASIDE = 2;

    private static final int STAND = 0;
    private static final int DRAW = 1;
    private static final int DOUBLE = 2;
    private static final int SPLIT = 3;
    private static final int GIVE_UP = 4;

    private static final int WIN = 2;
    private static final int LOSS = -2;
    private static final int GIVEN_UP = -1;

    private static final long MULTIPLIER = 6364136223846793005L;
    private static final long INCREMENT = 1442695040888963407L;

    /** By how many orders so many cards can come. */
    private static final long[] ORDERS = {
        1L, 1L, 2L, 6L, 24L, 120L, 720L, 5040L, 40320L, 362880L, 3628800L, 39916800L, 479001600L
    };

    private final Rules rules = new Rules();
    private final Cards cards = new Cards();
    private final Cards gone = new Cards();
    private final Cards atFresh = new Cards();
    private final Hand hand = new Hand();
    private final int[] marks = new int[RANKS + 1];
    private final Odds odds = new Odds();
    private final Heaps heaps = new Heaps();
    private int up = NONE;
    private int bank = 0;
    private long chain = 1L;
    private boolean shoeTold = false;

    public ShoeTable() {
    }

    // ---- shoe and rules

    public int shoe(int rank, int n) {
        if (!isRank(rank) || n < 0 || n > MOST_OF_A_RANK) {
            return OUTSIDE;
        }
        int had = cards.count(rank);
        cards.put(rank, n);
        shoeTold = true;
        return had;
    }

    public int fresh() {
        gone.clear();
        atFresh.copy(cards);
        shoeTold = false;
        clearTable();
        return cards.total;
    }

    public int rule(int what, int v) {
        return rules.change(what, v);
    }

    public int mark(int rank, int v) {
        if (!isRank(rank) || v < -MOST_MARK || v > MOST_MARK) {
            return OUTSIDE;
        }
        int was = marks[rank];
        marks[rank] = v;
        return was;
    }

    public int left(int rank) {
        if (rank == 0) {
            return cards.total;
        }
        return isRank(rank) ? cards.count(rank) : OUTSIDE;
    }

    // ---- the table

    public int take(int rank, int to) {
        if (!isRank(rank) || !isGoal(to)) {
            return OUTSIDE;
        }
        if (cards.count(rank) == 0) {
            return STATE;
        }
        if (to == TO_HAND && hand.isFull()) {
            return FULL;
        }
        moveOut(rank);
        bring(rank, to);
        return hand.size;
    }

    public int draw(int to) {
        if (!isGoal(to)) {
            return OUTSIDE;
        }
        if (cards.total == 0) {
            return STATE;
        }
        if (to == TO_HAND && hand.isFull()) {
            return FULL;
        }
        int rank = drawnRank();
        bring(rank, to);
        return rank;
    }

    public int seed(int v) {
        chain = v;
        return 1;
    }

    public int lay() {
        int laid = hand.size + (up == NONE ? 0 : 1);
        clearTable();
        return laid;
    }

    public int told(int what) {
        switch (what) {
            case 0: return hand.size;
            case 1: return handValue();
            case 2: return asNumber(rules.isSoft(hand.sum, hand.ace));
            case 3: return asNumber(rules.isNatural(handValue(), hand.size));
            case 4: return asNumber(rules.isBust(hand.sum));
            case 5: return up;
            case 6: return countOfGone();
            case 7: return bank;
            case 8: return gone.total;
            default: return what >= 10 && what < 10 + MOST_IN_HAND ? hand.card(what - 10) : OUTSIDE;
        }
    }

    public int settle() {
        if (hand.size == 0 || up == NONE) {
            return STATE;
        }
        int end = rules.isBust(hand.sum) ? 0 : playHouse();
        boolean natural = rules.isNatural(handValue(), hand.size);
        int halves = rules.settled(handValue(), natural, end);
        bank += halves;
        clearTable();
        return halves;
    }

    // ---- worths

    public int there(int act) {
        if (!isAct(act)) {
            return OUTSIDE;
        }
        lookAtTable();
        return asNumber(odds.isThere(act));
    }

    public long worth(int act, int what) {
        if (!isAct(act) || !isPart(what)) {
            return OUTSIDE;
        }
        lookAtTable();
        if (!odds.isThere(act)) {
            return STATE;
        }
        if (cards.total > MOST_FOR_WORTHS) {
            return LARGE;
        }
        return part(odds.actTotal(act), orders(cards.total), what);
    }

    public int best() {
        lookAtTable();
        if (!odds.anyThere()) {
            return STATE;
        }
        if (cards.total > MOST_FOR_WORTHS) {
            return LARGE;
        }
        odds.findBest();
        return odds.bestAct;
    }

    public long chance(int e, int what) {
        if (e < 0 || e == 1 || e > MOST_TARGET || !isPart(what)) {
            return OUTSIDE;
        }
        if (up == NONE) {
            return STATE;
        }
        if (cards.total > MOST_FOR_WORTHS) {
            return LARGE;
        }
        lookAtTable();
        return part(odds.endTotal(e), orders(cards.total), what);
    }

    public long deal(int what) {
        if (!isPart(what)) {
            return OUTSIDE;
        }
        if (cards.total < LEAST_FOR_A_DEAL) {
            return STATE;
        }
        if (cards.total > MOST_FOR_A_DEAL) {
            return LARGE;
        }
        lookAtTable();
        return part(odds.dealTotal(), orders(cards.total), what);
    }

    public long moved(int rank, int what) {
        if (!isRank(rank) || !isPart(what)) {
            return OUTSIDE;
        }
        lookAtTable();
        // STAND needs no card of the shoe, so that a card less leaves an act where there was one.
        if (cards.count(rank) == 0 || !odds.anyThere()) {
            return STATE;
        }
        if (cards.total > MOST_FOR_WORTHS) {
            return LARGE;
        }
        return part(odds.movedTotal(rank), orders(cards.total), what);
    }

    public long known(int rank, int what) {
        if (!isRank(rank) || !isPart(what)) {
            return OUTSIDE;
        }
        if (shoeTold) {
            return STATE;
        }
        if (atFresh.total > MOST_KNOWN_CARDS || gone.total > MOST_KNOWN_GONE) {
            return LARGE;
        }
        int had = atFresh.count(rank);
        if (had == 0) {
            return part(0L, 1L, what);
        }
        int sum = countOfGone();
        long all = heaps.ways(atFresh, marks, gone.total, sum);
        // A card of the rank is still there in just those heaps that can be made without it.
        atFresh.remove(rank);
        long without = heaps.ways(atFresh, marks, gone.total, sum);
        atFresh.add(rank);
        return part(had * without, all, what);
    }

    // ---- helpers of the calls

    private static boolean isRank(int rank) {
        return rank >= 1 && rank <= RANKS;
    }

    private static boolean isGoal(int to) {
        return to >= TO_HAND && to <= TO_ASIDE;
    }

    private static boolean isAct(int act) {
        return act >= STAND && act <= GIVE_UP;
    }

    private static boolean isPart(int what) {
        return what == 0 || what == 1;
    }

    private static int asNumber(boolean b) {
        return b ? 1 : 0;
    }

    private int handValue() {
        return rules.value(hand.sum, hand.ace);
    }

    private void clearTable() {
        hand.clear();
        up = NONE;
    }

    private void moveOut(int rank) {
        cards.remove(rank);
        gone.add(rank);
    }

    private void bring(int rank, int to) {
        if (to == TO_HAND) {
            hand.add(rank);
        } else if (to == TO_UP) {
            up = rank;
        }
    }

    /** The rank that THE DRAW takes out of the shoe; NONE, and nothing changes, if it is empty. */
    private int drawnRank() {
        if (cards.total <= 0) {
            return NONE;
        }
        chain = chain * MULTIPLIER + INCREMENT;
        int rank = cards.rankAt((int) ((chain >>> 33) % cards.total));
        moveOut(rank);
        return rank;
    }

    private int playHouse() {
        int sum = up;
        boolean ace = up == ACE;
        int value = rules.value(sum, ace);
        for (int i = 0; i < MOST_OF_SHOE && cards.total > 0 && rules.goesOn(value, value != sum); i++) {
            int rank = drawnRank();
            sum += rank;
            ace = ace || rank == ACE;
            value = rules.value(sum, ace);
        }
        return rules.end(value);
    }

    /** Reckoned anew each time, since the marks count as they are now, not as they were. */
    private int countOfGone() {
        int sum = 0;
        for (int rank = 1; rank <= RANKS; rank++) {
            sum += marks[rank] * gone.count(rank);
        }
        return sum;
    }

    private void lookAtTable() {
        odds.look(rules, cards, hand, up);
    }

    private static long orders(int cards) {
        return cards >= 0 && cards < ORDERS.length ? ORDERS[cards] : 0;
    }

    private static long part(long upper, long lower, int what) {
        long divisor = commonDivisor(Math.abs(upper), lower);
        if (divisor <= 0) {
            return 0;
        }
        return what == 0 ? upper / divisor : lower / divisor;
    }

    private static long commonDivisor(long a, long b) {
        long more = a;
        long less = b;
        // Two longs need fewer than a hundred steps.
        for (int i = 0; i < 200 && less != 0; i++) {
            long rest = more % less;
            more = less;
            less = rest;
        }
        return more;
    }

    /** How many cards there are of each rank. */
    private static final class Cards {
        private final int[] counts = new int[RANKS + 1];
        int total = 0;

        int count(int rank) {
            return rank >= 1 && rank <= RANKS ? counts[rank] : 0;
        }

        void put(int rank, int n) {
            if (rank >= 1 && rank <= RANKS) {
                total += n - counts[rank];
                counts[rank] = n;
            }
        }

        void add(int rank) {
            if (rank >= 1 && rank <= RANKS) {
                counts[rank]++;
                total++;
            }
        }

        /** Takes one card of a rank out, if there is one: how many there were. */
        int remove(int rank) {
            int had = rank >= 1 && rank <= RANKS ? counts[rank] : 0;
            if (had > 0) {
                counts[rank]--;
                total--;
            }
            return had;
        }

        void clear() {
            Arrays.fill(counts, 0);
            total = 0;
        }

        void copy(Cards other) {
            System.arraycopy(other.counts, 0, counts, 0, counts.length);
            total = other.total;
        }

        /** The rank of the card at a place below the total, the cards lying by rising ranks. */
        int rankAt(int place) {
            int rest = place;
            for (int rank = 1; rank < RANKS; rank++) {
                if (rest < counts[rank]) {
                    return rank;
                }
                rest -= counts[rank];
            }
            return RANKS;
        }
    }

    /** A row of cards of the player, with what their value is made of. */
    private static final class Hand {
        private final int[] row = new int[MOST_IN_HAND];
        int size = 0;
        int sum = 0;
        boolean ace = false;

        boolean isFull() {
            return size >= MOST_IN_HAND;
        }

        void add(int rank) {
            if (size >= MOST_IN_HAND) {
                return;
            }
            row[size] = rank;
            size++;
            sum += rank;
            ace = ace || rank == ACE;
        }

        void clear() {
            size = 0;
            sum = 0;
            ace = false;
        }

        int card(int place) {
            return place >= 0 && place < size ? row[place] : NONE;
        }

        boolean isPair() {
            return size == 2 && row[0] == row[1];
        }

        void copy(Hand other) {
            System.arraycopy(other.row, 0, row, 0, row.length);
            size = other.size;
            sum = other.sum;
            ace = other.ace;
        }
    }

    /** The rules, and what they say of cards by the sum of their ranks and whether an ace is among them. */
    private static final class Rules {
        static final int TARGET = 0;
        static final int STANDS = 1;
        static final int SOFTLY = 2;
        static final int DOUBLES = 3;
        static final int SPLITS = 4;
        static final int GIVES = 5;
        static final int BONUS = 6;
        private static final int[] LEAST = {11, 10, 0, 0, 0, 0, 2};
        private static final int[] MOST = {21, 21, 1, 1, 1, 1, 4};
        private static final int SOFT_EXTRA = 10;

        private final int[] now = {21, 17, 0, 1, 1, 1, 3};

        private boolean allows(int what, int v) {
            if (what < TARGET || what > BONUS || v < LEAST[what] || v > MOST[what]) {
                return false;
            }
            if (what == TARGET) {
                return v >= now[STANDS];
            }
            return what != STANDS || v <= now[TARGET];
        }

        /** A rule becomes v: what it was; OUTSIDE, and nothing changes, if v is out of its bounds. */
        int change(int what, int v) {
            if (!allows(what, v)) {
                return OUTSIDE;
            }
            int was = now[what];
            now[what] = v;
            return was;
        }

        void copy(Rules other) {
            System.arraycopy(other.now, 0, now, 0, now.length);
        }

        boolean doubles() {
            return now[DOUBLES] == 1;
        }

        boolean splits() {
            return now[SPLITS] == 1;
        }

        boolean gives() {
            return now[GIVES] == 1;
        }

        boolean isSoft(int sum, boolean ace) {
            return ace && sum + SOFT_EXTRA <= now[TARGET];
        }

        int value(int sum, boolean ace) {
            return ace && sum + SOFT_EXTRA <= now[TARGET] ? sum + SOFT_EXTRA : sum;
        }

        /** By the bare sum: an ace's ten are added only where they fit. */
        boolean isBust(int sum) {
            return sum > now[TARGET];
        }

        boolean isNatural(int value, int size) {
            return size == 2 && value == now[TARGET];
        }

        /** Whether the house draws one more card, if there is one. */
        boolean goesOn(int value, boolean soft) {
            return value < now[STANDS] || value == now[STANDS] && soft && now[SOFTLY] == 1;
        }

        /** Where a house that stops at a value ends. */
        int end(int value) {
            return value > now[TARGET] ? 0 : value;
        }

        int settled(int value, boolean natural, int end) {
            if (value > now[TARGET] || end > value) {
                return LOSS;
            }
            if (end == value) {
                return 0;
            }
            return natural ? now[BONUS] : WIN;
        }
    }

    /**
     * What acts are worth, and where the house ends, as seen from a copy of the table. A total is a
     * sum over all orders of the cards that are left, so it is whole: the mean times the number of
     * these orders. Totals are asked only of a shoe of MOST_FOR_WORTHS cards or fewer.
     */
    private static final class Odds {
        /** Twelve cards of ten ranks make the most different heaps with counts 2, 2, 1, .., 1. */
        private static final int HEAPS = 2304;

        private final Rules rules = new Rules();
        private final Cards shoe = new Cards();
        private final Cards whole = new Cards();
        private final Hand hand = new Hand();
        private int up = NONE;
        int bestAct = NONE;
        private long bestTotal = 0;

        /** What is paid to the player, by the end of the house. */
        private final long[] pay = new long[MOST_TARGET + 1];
        /** A heap that left the shoe has for its number the sum of the steps of its cards. */
        private final int[] step = new int[RANKS + 1];
        /** Totals that have been found, by heap; they hold only in the round that found them. */
        private final long[] houseTotals = new long[HEAPS];
        private final int[] houseRounds = new int[HEAPS];
        private int houseRound = 0;
        private final long[] playerTotals = new long[HEAPS];
        private final int[] playerRounds = new int[HEAPS];
        private int playerRound = 0;

        void look(Rules itsRules, Cards itsShoe, Hand itsHand, int itsUp) {
            rules.copy(itsRules);
            shoe.copy(itsShoe);
            hand.copy(itsHand);
            up = itsUp;
        }

        boolean isThere(int act) {
            if (hand.size == 0 || rules.isBust(hand.sum) || up == NONE) {
                return false;
            }
            switch (act) {
                case STAND: return true;
                case DRAW: return shoe.total >= 1 && !hand.isFull();
                case DOUBLE: return hand.size == 2 && rules.doubles() && shoe.total >= 1;
                case SPLIT: return hand.isPair() && rules.splits() && shoe.total >= 2;
                case GIVE_UP: return hand.size == 2 && rules.gives();
                default: return false;
            }
        }

        /** Whether any act is there: STAND is, wherever another one is. */
        boolean anyThere() {
            return isThere(STAND);
        }

        long actTotal(int act) {
            numberHeaps();
            playerRound++;
            switch (act) {
                case STAND: return standTotal(0, hand.sum, hand.ace, hand.size);
                case DRAW: return playerTotal(0, hand.sum, hand.ace, hand.size, shoe.total);
                case DOUBLE: return doubleTotal();
                case SPLIT: return splitTotal(hand.card(0));
                default: return GIVEN_UP * orders(shoe.total);
            }
        }

        /** Finds the best act and its total; NONE and 0, if none is there. */
        void findBest() {
            bestAct = NONE;
            bestTotal = 0;
            for (int act = STAND; act <= GIVE_UP; act++) {
                if (isThere(act)) {
                    long total = actTotal(act);
                    if (bestAct == NONE || total > bestTotal) {
                        bestAct = act;
                        bestTotal = total;
                    }
                }
            }
        }

        long endTotal(int end) {
            numberHeaps();
            for (int i = 0; i <= MOST_TARGET; i++) {
                pay[i] = i == end ? 1 : 0;
            }
            houseRound++;
            return houseTotal(0, up, up == ACE, shoe.total);
        }

        long movedTotal(int rank) {
            findBest();
            long now = bestTotal;
            int cards = shoe.total;
            shoe.remove(rank);
            findBest();
            shoe.add(rank);
            // One card less has fewer orders: so many times fewer as there were cards.
            return bestTotal * cards - now;
        }

        long dealTotal() {
            long all = 0;
            whole.copy(shoe);
            for (int first = 1; first <= RANKS; first++) {
                for (int second = first; second <= RANKS; second++) {
                    for (int third = 1; third <= RANKS; third++) {
                        long ways = handOut(first, second, third);
                        if (ways > 0) {
                            findBest();
                            // Of two cards that are bust no act is there.
                            all += ways * (bestAct == NONE ? LOSS * orders(shoe.total) : bestTotal);
                        }
                    }
                }
            }
            return all;
        }

        /** Two cards for the player, and UP, from the whole shoe: in how many ways they come so. */
        private long handOut(int first, int second, int third) {
            shoe.copy(whole);
            long ways = (long) shoe.remove(first) * shoe.remove(second) * shoe.remove(third);
            hand.clear();
            hand.add(first);
            hand.add(second);
            up = third;
            // Two cards are worth the same in either order, so each two are looked at once.
            return first == second ? ways : 2 * ways;
        }

        private void numberHeaps() {
            int heaps = 1;
            for (int rank = 1; rank <= RANKS; rank++) {
                step[rank] = heaps;
                heaps *= shoe.count(rank) + 1;
            }
        }

        /** The house ends, a heap having left the shoe before, and one hand is settled. */
        private long standTotal(int heap, int sum, boolean ace, int size) {
            if (rules.isBust(sum)) {
                return LOSS * orders(shoe.total);
            }
            int value = rules.value(sum, ace);
            boolean natural = rules.isNatural(value, size);
            for (int end = 0; end <= MOST_TARGET; end++) {
                pay[end] = rules.settled(value, natural, end);
            }
            houseRound++;
            return houseTotal(heap, up, up == ACE, shoe.total);
        }

        private long houseTotal(int heap, int sum, boolean ace, int cards) {
            if (heap < 0 || heap >= HEAPS || sum < 0) {
                return 0;
            }
            int value = rules.value(sum, ace);
            if (cards <= 0 || !rules.goesOn(value, value != sum)) {
                return pay[rules.end(value)] * orders(cards);
            }
            if (houseRounds[heap] == houseRound) {
                return houseTotals[heap];
            }
            long all = 0;
            for (int rank = 1; rank <= RANKS; rank++) {
                int n = shoe.remove(rank);
                if (n > 0) {
                    all += n * houseTotal(heap + step[rank], sum + rank, ace || rank == ACE, cards - 1);
                    shoe.add(rank);
                }
            }
            houseRounds[heap] = houseRound;
            houseTotals[heap] = all;
            return all;
        }

        /** The better one of STAND and DRAW; of heap 0, when no card has come yet, DRAW alone. */
        private long playerTotal(int heap, int sum, boolean ace, int size, int cards) {
            if (heap < 0 || heap >= HEAPS) {
                return 0;
            }
            if (rules.isBust(sum)) {
                return LOSS * orders(cards);
            }
            if (playerRounds[heap] == playerRound) {
                return playerTotals[heap];
            }
            long all = 0;
            for (int rank = 1; rank <= RANKS && cards > 0; rank++) {
                int n = shoe.remove(rank);
                if (n > 0) {
                    all += n * playerTotal(heap + step[rank], sum + rank, ace || rank == ACE, size + 1, cards - 1);
                    shoe.add(rank);
                }
            }
            if (heap != 0) {
                long stand = standTotal(heap, sum, ace, size);
                all = cards > 0 ? Math.max(stand, all) : stand;
            }
            playerRounds[heap] = playerRound;
            playerTotals[heap] = all;
            return all;
        }

        private long doubleTotal() {
            long all = 0;
            for (int rank = 1; rank <= RANKS; rank++) {
                int n = shoe.remove(rank);
                if (n > 0) {
                    all += n * standTotal(step[rank], hand.sum + rank, hand.ace || rank == ACE, hand.size + 1);
                    shoe.add(rank);
                }
            }
            return 2 * all;
        }

        private long splitTotal(int card) {
            long all = 0;
            for (int first = 1; first <= RANKS; first++) {
                long n = shoe.remove(first);
                for (int second = 1; second <= RANKS && n > 0; second++) {
                    int m = shoe.remove(second);
                    if (m > 0) {
                        all += n * m * bothTotal(card, first, second);
                        shoe.add(second);
                    }
                }
                if (n > 0) {
                    shoe.add(first);
                }
            }
            return all;
        }

        /** The house ends, and two hands are settled that have a card each and one more by a split. */
        private long bothTotal(int card, int first, int second) {
            int firstValue = rules.value(card + first, card == ACE || first == ACE);
            int secondValue = rules.value(card + second, card == ACE || second == ACE);
            for (int end = 0; end <= MOST_TARGET; end++) {
                pay[end] = rules.settled(firstValue, false, end) + rules.settled(secondValue, false, end);
            }
            houseRound++;
            return houseTotal(step[first] + step[second], up, up == ACE, shoe.total);
        }
    }

    /** Counts the heaps that can have left a shoe, by their size and by the sum of their marks. */
    private static final class Heaps {
        private static final int MOST_SUM = MOST_KNOWN_GONE * MOST_MARK;
        private static final int SUMS = 2 * MOST_SUM + 1;

        /** By size, then by sum, a sum of 0 standing in the middle. */
        private final long[][] ways = new long[MOST_KNOWN_GONE + 1][SUMS];

        /** How many heaps of a size there are of some cards, with marks that sum up to a sum. */
        long ways(Cards of, int[] marks, int size, int sum) {
            if (size < 0 || size > MOST_KNOWN_GONE || sum < -MOST_SUM || sum > MOST_SUM) {
                return 0;
            }
            for (int i = 0; i <= size; i++) {
                Arrays.fill(ways[i], 0L);
            }
            ways[0][MOST_SUM] = 1;
            for (int rank = 1; rank <= RANKS; rank++) {
                for (int i = 0; i < of.count(rank); i++) {
                    addCard(marks[rank], size);
                }
            }
            return ways[size][MOST_SUM + sum];
        }

        /** From the largest size down, so that the card is in no heap twice. */
        private void addCard(int mark, int most) {
            int from = Math.max(0, mark);
            int below = Math.min(SUMS, SUMS + mark);
            for (int size = most; size > 0; size--) {
                for (int i = from; i < below; i++) {
                    ways[size][i] += ways[size - 1][i - mark];
                }
            }
        }
    }
}
