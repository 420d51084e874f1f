/**
 * A shop that orders up to a level at the beginning of each period and loses the sales that it
 * cannot serve: mean costs as exact fractions, plans with two levels, real sales, and commands as
 * texts. The document's promises say what each call answers.
 */
public final class OrderLevels {
    public static final int INVALID_ARGUMENT = -1000001;
    public static final int NOT_POSSIBLE = -1000002;
    public static final int LIMIT_REACHED = -1000003;
    public static final int NOT_FOUND = -1000004;

    private static final int MOST_STOCK = 20;
    private static final int MOST_DEMAND = 6;
    private static final int MOST_WEIGHT = 9;
    private static final int MOST_WEIGHT_SUM = 12;
    private static final int MOST_PERIODS = 6;
    private static final int MOST_PAIR_PERIODS = 3;
    private static final int KEPT_SALES = 6;
    private static final int KEPT_STATES = 4;
    private static final int MOST_SIGNS = 80;

    private static final int COST_KINDS = 5;
    private static final int ORDER_COST = 0;
    private static final int PIECE_COST = 1;
    private static final int LEFT_COST = 2;
    private static final int LOST_COST = 3;
    private static final int END_COST = 4;
    private static final int[] MOST_COST = {99, 9, 9, 29, 9};

    private final Shop shop;
    private final Shop spare;
    private final History history;
    private final Means means;
    private final Script script;

    public OrderLevels() {
        shop = new Shop();
        spare = new Shop();
        history = new History();
        means = new Means();
        script = new Script();
    }

    // ---- demands, costs, plans

    public int weigh(int demand, int weight) {
        spare.copyFrom(shop);
        return recorded(shop.setWeight(demand, weight));
    }

    public int cost(int what, int value) {
        spare.copyFrom(shop);
        return recorded(shop.setCost(what, value));
    }

    public int plan(int periods, int low, int high) {
        spare.copyFrom(shop);
        return recorded(shop.setPlan(periods, low, high));
    }

    public int setting(int what, int index) {
        return shop.settingOf(what, index);
    }

    // ---- what really happens

    public int season(int stock, int periods) {
        spare.copyFrom(shop);
        return recorded(shop.begin(stock, periods));
    }

    public int order(int level) {
        spare.copyFrom(shop);
        return recorded(shop.orderUpTo(level));
    }

    public int follow() {
        spare.copyFrom(shop);
        return recorded(shop.followPlan());
    }

    public int sell(int demand) {
        spare.copyFrom(shop);
        return recorded(shop.serve(demand));
    }

    public int saleAt(int index, int what) {
        return shop.saleNumber(index, what);
    }

    public int count(int what) {
        switch (what) {
            case 10:
                return history.size();
            case 11:
                return script.size();
            default:
                return shop.numberOf(what);
        }
    }

    // ---- means

    public long least(int stock, int periods, int part) {
        if (outside(stock, 0, MOST_STOCK) || outside(periods, 0, MOST_PERIODS)
                || outside(part, 0, 1)) {
            return INVALID_ARGUMENT;
        }
        means.findBest(shop, periods);
        return partOf(means.leastCost(stock, periods), means.below(periods), part);
    }

    public int best(int stock, int periods) {
        if (outside(stock, 0, MOST_STOCK) || outside(periods, 1, MOST_PERIODS)) {
            return INVALID_ARGUMENT;
        }
        means.findBest(shop, periods);
        return means.bestLevel(stock, periods);
    }

    public long planned(int stock, int periods, int part) {
        if (outside(stock, 0, MOST_STOCK) || outside(periods, 0, MOST_PERIODS)
                || outside(part, 0, 1)) {
            return INVALID_ARGUMENT;
        }
        means.followPlan(shop, periods);
        return partOf(means.planCost(stock, periods), means.below(periods), part);
    }

    public long regret(int stock, int periods, int part) {
        if (outside(stock, 0, MOST_STOCK) || outside(periods, 0, MOST_PERIODS)
                || outside(part, 0, 1)) {
            return INVALID_ARGUMENT;
        }
        means.findBest(shop, periods);
        means.followPlan(shop, periods);
        long more = means.planCost(stock, periods) - means.leastCost(stock, periods);
        return partOf(more, means.below(periods), part);
    }

    public long levelValue(int level, int periods, int part) {
        if (outside(level, 0, MOST_STOCK) || outside(periods, 1, MOST_PERIODS)
                || outside(part, 0, 1)) {
            return INVALID_ARGUMENT;
        }
        means.findBest(shop, periods);
        return partOf(means.valueOf(level, periods), means.below(periods), part);
    }

    public int shape(int periods, int what) {
        if (outside(periods, 1, MOST_PERIODS) || outside(what, 0, 6)) {
            return INVALID_ARGUMENT;
        }
        means.findBest(shop, periods);
        switch (what) {
            case 0:
                return means.leastLevel(periods);
            case 1:
                return means.greatestOrdering(periods);
            case 2:
                return means.convexityGaps(periods);
            case 3:
                return means.firstConvexityGap(periods);
            case 4:
                return means.orderGaps(periods);
            case 5:
                return means.firstOrderGap(periods);
            default:
                return means.unlikeLevels(periods);
        }
    }

    public long bestPlan(int stock, int periods, int what) {
        if (outside(stock, 0, MOST_STOCK) || outside(periods, 1, MOST_PAIR_PERIODS)
                || outside(what, 0, 3)) {
            return INVALID_ARGUMENT;
        }
        means.findPair(shop, stock, periods);
        switch (what) {
            case 0:
                return means.pairLow();
            case 1:
                return means.pairHigh();
            default:
                return partOf(means.pairCost(), means.below(periods), what - 2);
        }
    }

    public int undo() {
        if (history.size() == 0) {
            return NOT_POSSIBLE;
        }
        return history.restore(shop);
    }

    // ---- texts

    public int type(int character) {
        return script.append(character);
    }

    public int clearText() {
        return script.empty();
    }

    public int fault(int what) {
        if (outside(what, 0, 1)) {
            return INVALID_ARGUMENT;
        }
        spare.copyFrom(shop);
        script.run(spare);
        if (!script.hasFault()) {
            return NOT_FOUND;
        }
        return what == 0 ? script.faultPosition() : script.faultReason();
    }

    public int play() {
        spare.copyFrom(shop);
        script.run(spare);
        if (script.hasFault()) {
            return NOT_POSSIBLE;
        }
        history.record(shop);
        shop.copyFrom(spare);
        return script.commandsDone();
    }

    /** Keeps the state ahead of a change, which the spare shop holds, if the change was done. */
    private int recorded(int answer) {
        if (answer >= 0) {
            history.record(spare);
        }
        return answer;
    }

    private static boolean outside(int number, int least, int most) {
        return number < least || number > most;
    }

    /** The number above (part 0) or below (part 1) of a fraction in lowest terms. */
    private static long partOf(long above, long below, int part) {
        long divisor = commonDivisor(above, below);
        if (divisor == 0) {
            return 0;
        }
        return part == 0 ? above / divisor : below / divisor;
    }

    private static long commonDivisor(long first, long second) {
        long divisor = first;
        long rest = second;
        // Euclid needs fewer than 100 steps for any two longs.
        for (int step = 0; step < 100 && rest != 0; step++) {
            long next = divisor % rest;
            divisor = rest;
            rest = next;
        }
        return Math.abs(divisor);
    }

    /** All that a change can change: settings, the season, and what was counted. */
    private static final class Shop {
        private static final int SALE_SIZE = 4;

        private final int[] weights = {1, 0, 0, 0, 0, 0, 0};
        private final int[] costs = {5, 1, 1, 4, 0};
        // The plan's levels by the periods left; those at 0 are not used.
        private final int[] lows = new int[MOST_PERIODS + 1];
        private final int[] highs = new int[MOST_PERIODS + 1];
        // The latest sale first, each with its demand, pieces sold, stock and periods.
        private final int[] saleRows = new int[KEPT_SALES * SALE_SIZE];
        private int stock;
        private int periods;
        private boolean ordered;
        private int orders;
        private int piecesOrdered;
        private int piecesSold;
        private int piecesLost;
        private int money;
        private int sales;

        void copyFrom(Shop other) {
            System.arraycopy(other.weights, 0, weights, 0, weights.length);
            System.arraycopy(other.costs, 0, costs, 0, costs.length);
            System.arraycopy(other.lows, 0, lows, 0, lows.length);
            System.arraycopy(other.highs, 0, highs, 0, highs.length);
            System.arraycopy(other.saleRows, 0, saleRows, 0, saleRows.length);
            stock = other.stock;
            periods = other.periods;
            ordered = other.ordered;
            orders = other.orders;
            piecesOrdered = other.piecesOrdered;
            piecesSold = other.piecesSold;
            piecesLost = other.piecesLost;
            money = other.money;
            sales = other.sales;
        }

        int weightSum() {
            int sum = 0;
            for (int weight : weights) {
                sum += weight;
            }
            return sum;
        }

        int setWeight(int demand, int weight) {
            if (outside(demand, 0, MOST_DEMAND) || outside(weight, 0, MOST_WEIGHT)) {
                return INVALID_ARGUMENT;
            }
            int sum = weightSum() - weights[demand] + weight;
            if (sum == 0) {
                return NOT_POSSIBLE;
            }
            if (sum > MOST_WEIGHT_SUM) {
                return LIMIT_REACHED;
            }
            weights[demand] = weight;
            return sum;
        }

        int setCost(int what, int value) {
            if (outside(what, 0, COST_KINDS - 1) || outside(value, 0, MOST_COST[what])) {
                return INVALID_ARGUMENT;
            }
            int old = costs[what];
            costs[what] = value;
            return old;
        }

        int setPlan(int periodsLeft, int low, int high) {
            if (outside(periodsLeft, 1, MOST_PERIODS) || outside(low, 0, MOST_STOCK)
                    || outside(high, low, MOST_STOCK)) {
                return INVALID_ARGUMENT;
            }
            int old = 100 * lows[periodsLeft] + highs[periodsLeft];
            lows[periodsLeft] = low;
            highs[periodsLeft] = high;
            return old;
        }

        int settingOf(int what, int index) {
            switch (what) {
                case 0:
                    return outside(index, 0, MOST_DEMAND) ? INVALID_ARGUMENT : weights[index];
                case 1:
                    return outside(index, 0, COST_KINDS - 1) ? INVALID_ARGUMENT : costs[index];
                case 2:
                    return outside(index, 1, MOST_PERIODS) ? INVALID_ARGUMENT : lows[index];
                case 3:
                    return outside(index, 1, MOST_PERIODS) ? INVALID_ARGUMENT : highs[index];
                default:
                    return INVALID_ARGUMENT;
            }
        }

        int begin(int firstStock, int allPeriods) {
            if (outside(firstStock, 0, MOST_STOCK) || outside(allPeriods, 1, MOST_PERIODS)) {
                return INVALID_ARGUMENT;
            }
            int old = periods;
            stock = firstStock;
            periods = allPeriods;
            ordered = false;
            return old;
        }

        int orderUpTo(int level) {
            if (outside(level, 0, MOST_STOCK)) {
                return INVALID_ARGUMENT;
            }
            if (periods == 0 || ordered || level < stock) {
                return NOT_POSSIBLE;
            }
            int price = orderPrice(stock, level);
            if (level > stock) {
                orders++;
            }
            piecesOrdered += level - stock;
            money += price;
            stock = level;
            ordered = true;
            return price;
        }

        int followPlan() {
            if (periods == 0 || ordered) {
                return NOT_POSSIBLE;
            }
            orderUpTo(levelAfter(stock, lowLevel(periods), highLevel(periods)));
            return stock;
        }

        int serve(int demand) {
            if (outside(demand, 0, MOST_DEMAND)) {
                return INVALID_ARGUMENT;
            }
            if (periods == 0) {
                return NOT_POSSIBLE;
            }
            int sold = Math.min(demand, stock);
            keepSale(demand, sold);
            piecesSold += sold;
            piecesLost += demand - sold;
            money += periodPrice(stock, demand);
            stock -= sold;
            periods--;
            ordered = false;
            if (periods == 0) {
                money += endPrice(stock);
            }
            return sold;
        }

        private void keepSale(int demand, int sold) {
            for (int i = saleRows.length - 1; i >= SALE_SIZE; i--) {
                saleRows[i] = saleRows[i - SALE_SIZE];
            }
            saleRows[0] = demand;
            saleRows[1] = sold;
            saleRows[2] = stock;
            saleRows[3] = periods;
            sales++;
        }

        int saleNumber(int index, int what) {
            if (index < 0 || outside(what, 0, SALE_SIZE - 1)) {
                return INVALID_ARGUMENT;
            }
            if (index >= Math.min(sales, KEPT_SALES)) {
                return NOT_FOUND;
            }
            return saleRows[index * SALE_SIZE + what];
        }

        int numberOf(int what) {
            switch (what) {
                case 0:
                    return stock;
                case 1:
                    return periods;
                case 2:
                    return ordered ? 1 : 0;
                case 3:
                    return weightSum();
                case 4:
                    return orders;
                case 5:
                    return piecesOrdered;
                case 6:
                    return piecesSold;
                case 7:
                    return piecesLost;
                case 8:
                    return money;
                case 9:
                    return sales;
                default:
                    return INVALID_ARGUMENT;
            }
        }

        /** The level that two levels of a plan lead to. */
        static int levelAfter(int stock, int low, int high) {
            return stock < low ? high : stock;
        }

        int lowLevel(int periodsLeft) {
            return lows[periodsLeft];
        }

        int highLevel(int periodsLeft) {
            return highs[periodsLeft];
        }

        int orderPrice(int from, int level) {
            if (level <= from) {
                return 0;
            }
            return costs[ORDER_COST] + costs[PIECE_COST] * (level - from);
        }

        /** The cost of the pieces left and lost when a demand comes to a level. */
        int periodPrice(int level, int demand) {
            int left = Math.max(0, level - demand);
            int lost = Math.max(0, demand - level);
            return costs[LEFT_COST] * left + costs[LOST_COST] * lost;
        }

        int endPrice(int left) {
            return costs[END_COST] * left;
        }

        int piecePrice(int pieces) {
            return costs[PIECE_COST] * pieces;
        }

        int firstOrderPrice() {
            return costs[ORDER_COST];
        }

        /** The sum over the demands of weight times the cost of the pieces left and lost. */
        long weighedPeriodPrice(int level) {
            long sum = 0;
            for (int demand = 0; demand <= MOST_DEMAND; demand++) {
                sum += (long) weights[demand] * periodPrice(level, demand);
            }
            return sum;
        }

        /** The sum over the demands of weight times what a row tells of the stock left then. */
        long weighedRest(int level, long[] row) {
            long sum = 0;
            for (int demand = 0; demand <= MOST_DEMAND; demand++) {
                int left = Math.max(0, level - demand);
                if (weights[demand] > 0 && left < row.length) {
                    sum += weights[demand] * row[left];
                }
            }
            return sum;
        }
    }

    /** The latest states, in a ring of shops that are used again. */
    private static final class History {
        private final Shop[] ring = new Shop[KEPT_STATES];
        private int newest;
        private int size;

        History() {
            for (int i = 0; i < ring.length; i++) {
                ring[i] = new Shop();
            }
        }

        int size() {
            return size;
        }

        void record(Shop shop) {
            newest = (newest + 1) % KEPT_STATES;
            ring[newest].copyFrom(shop);
            size = Math.min(size + 1, KEPT_STATES);
        }

        /** Puts the latest state into a shop and forgets it; returns how many are left. */
        int restore(Shop shop) {
            if (size > 0) {
                shop.copyFrom(ring[newest]);
                newest = (newest + KEPT_STATES - 1) % KEPT_STATES;
                size--;
            }
            return size;
        }
    }

    /**
     * Mean costs. A mean over n periods is held as a whole number, which is the mean times the sum
     * of weights to the power n: so rows are exact and can be compared without fractions. The
     * greatest is below 4000 times 12 to the power 6, which a long holds.
     */
    private static final class Means {
        private final long[] powers = new long[MOST_PERIODS + 1];
        private final long[] periodPrices = new long[MOST_STOCK + 1];
        private final long[][] leasts = new long[MOST_PERIODS + 1][MOST_STOCK + 1];
        private final long[][] values = new long[MOST_PERIODS + 1][MOST_STOCK + 1];
        private final int[][] bests = new int[MOST_PERIODS + 1][MOST_STOCK + 1];
        private final long[][] plans = new long[MOST_PERIODS + 1][MOST_STOCK + 1];
        private int foundLow;
        private int foundHigh;
        private long foundCost;

        long below(int periods) {
            return powers[periods];
        }

        long leastCost(int stock, int periods) {
            return leasts[periods][stock];
        }

        long valueOf(int level, int periods) {
            return values[periods][level];
        }

        int bestLevel(int stock, int periods) {
            return bests[periods][stock];
        }

        long planCost(int stock, int periods) {
            return plans[periods][stock];
        }

        int pairLow() {
            return foundLow;
        }

        int pairHigh() {
            return foundHigh;
        }

        long pairCost() {
            return foundCost;
        }

        /** Finds the best way for all numbers of periods left up to the one given. */
        void findBest(Shop shop, int periods) {
            prepare(shop);
            fillEnd(shop, leasts[0]);
            for (int left = 1; left <= periods; left++) {
                fillValues(shop, left);
                fillBests(shop, left);
            }
        }

        /** Finds the costs by the plan for all numbers of periods left up to the one given. */
        void followPlan(Shop shop, int periods) {
            prepare(shop);
            fillEnd(shop, plans[0]);
            for (int left = 1; left <= periods; left++) {
                fillPlan(shop, left, shop.lowLevel(left), shop.highLevel(left), 0, MOST_STOCK);
            }
        }

        /** Finds the best of all plans with the same two levels for all periods. */
        void findPair(Shop shop, int stock, int periods) {
            prepare(shop);
            fillEnd(shop, plans[0]);
            foundLow = -1;
            for (int low = 0; low <= MOST_STOCK; low++) {
                for (int high = low; high <= MOST_STOCK; high++) {
                    // No stock above these two comes up, so that no row is needed beyond them.
                    int top = Math.max(stock, high);
                    for (int left = 1; left < periods; left++) {
                        fillPlan(shop, left, low, high, 0, top);
                    }
                    fillPlan(shop, periods, low, high, stock, stock);
                    keepPair(low, high, plans[periods][stock]);
                }
            }
        }

        private void keepPair(int low, int high, long cost) {
            if (foundLow < 0 || cost < foundCost) {
                foundLow = low;
                foundHigh = high;
                foundCost = cost;
            }
        }

        private void prepare(Shop shop) {
            int sum = shop.weightSum();
            powers[0] = 1;
            for (int left = 1; left <= MOST_PERIODS; left++) {
                powers[left] = powers[left - 1] * sum;
            }
            for (int level = 0; level <= MOST_STOCK; level++) {
                periodPrices[level] = shop.weighedPeriodPrice(level);
            }
        }

        private static void fillEnd(Shop shop, long[] row) {
            for (int stock = 0; stock < row.length; stock++) {
                row[stock] = shop.endPrice(stock);
            }
        }

        /** The mean cost of the periods left, without the order that leads to the level. */
        private long costBehind(Shop shop, int level, int left, long[] next) {
            return periodPrices[level] * powers[left - 1] + shop.weighedRest(level, next);
        }

        private void fillValues(Shop shop, int left) {
            for (int level = 0; level <= MOST_STOCK; level++) {
                values[left][level] = shop.piecePrice(level) * powers[left]
                        + costBehind(shop, level, left, leasts[left - 1]);
            }
        }

        private void fillBests(Shop shop, int left) {
            long[] row = values[left];
            long orderPrice = shop.firstOrderPrice() * powers[left];
            for (int stock = 0; stock <= MOST_STOCK; stock++) {
                int bestLevel = stock;
                long bestCost = row[stock];
                for (int level = stock + 1; level <= MOST_STOCK; level++) {
                    if (row[level] + orderPrice < bestCost) {
                        bestLevel = level;
                        bestCost = row[level] + orderPrice;
                    }
                }
                bests[left][stock] = bestLevel;
                // The level function counts the stock's own pieces, which are not ordered.
                leasts[left][stock] = bestCost - shop.piecePrice(stock) * powers[left];
            }
        }

        /** Fills the row of a plan for the stocks of from to top. */
        private void fillPlan(Shop shop, int left, int low, int high, int from, int top) {
            long[] next = plans[left - 1];
            long costAtHigh = from < low ? costBehind(shop, high, left, next) : 0;
            for (int stock = from; stock <= top; stock++) {
                int level = Shop.levelAfter(stock, low, high);
                if (level > stock) {
                    plans[left][stock] = shop.orderPrice(stock, level) * powers[left] + costAtHigh;
                } else {
                    plans[left][stock] = costBehind(shop, stock, left, next);
                }
            }
        }

        int leastLevel(int periods) {
            long[] row = values[periods];
            int least = 0;
            for (int level = 1; level <= MOST_STOCK; level++) {
                if (row[level] < row[least]) {
                    least = level;
                }
            }
            return least;
        }

        private boolean orders(int stock, int periods) {
            return bests[periods][stock] > stock;
        }

        int greatestOrdering(int periods) {
            for (int stock = MOST_STOCK; stock >= 0; stock--) {
                if (orders(stock, periods)) {
                    return stock;
                }
            }
            return NOT_FOUND;
        }

        private boolean isConvexityGap(int level, int periods) {
            long[] row = values[periods];
            return 2 * row[level] > row[level - 1] + row[level + 1];
        }

        int convexityGaps(int periods) {
            int gaps = 0;
            for (int level = 1; level < MOST_STOCK; level++) {
                if (isConvexityGap(level, periods)) {
                    gaps++;
                }
            }
            return gaps;
        }

        int firstConvexityGap(int periods) {
            for (int level = 1; level < MOST_STOCK; level++) {
                if (isConvexityGap(level, periods)) {
                    return level;
                }
            }
            return NOT_FOUND;
        }

        private boolean isOrderGap(int stock, int periods) {
            return orders(stock, periods) && !orders(stock - 1, periods);
        }

        int orderGaps(int periods) {
            int gaps = 0;
            for (int stock = 1; stock <= MOST_STOCK; stock++) {
                if (isOrderGap(stock, periods)) {
                    gaps++;
                }
            }
            return gaps;
        }

        int firstOrderGap(int periods) {
            for (int stock = 1; stock <= MOST_STOCK; stock++) {
                if (isOrderGap(stock, periods)) {
                    return stock;
                }
            }
            return NOT_FOUND;
        }

        int unlikeLevels(int periods) {
            int unlike = 0;
            for (int stock = 0; stock <= MOST_STOCK; stock++) {
                if (orders(stock, periods) && isNewLevel(stock, periods)) {
                    unlike++;
                }
            }
            return unlike;
        }

        private boolean isNewLevel(int stock, int periods) {
            for (int lower = 0; lower < stock; lower++) {
                if (orders(lower, periods) && bests[periods][lower] == bests[periods][stock]) {
                    return false;
                }
            }
            return true;
        }
    }

    /** The text, and how far its commands can be done. */
    private static final class Script {
        private static final int NO_FAULT = 0;
        private static final int WRONG_FORM = 1;
        private static final int OUT_OF_RANGE = 2;
        private static final int NOT_DONE = 3;

        private static final int WEIGHT = 0;
        private static final int COST = 1;
        private static final int SEASON = 2;
        private static final int PLAN = 3;
        private static final int ORDER = 4;
        private static final int FOLLOW = 5;
        private static final int SELL = 6;
        private static final int COMMAND_KINDS = 7;
        private static final int MOST_NUMBERS = 3;
        private static final int MOST_DIGITS = 2;

        private final char[] signs = new char[MOST_SIGNS];
        private final int[] numbers = new int[MOST_NUMBERS];
        private int size;
        private int at;
        private int done;
        private int faultAt;
        private int reason;

        int size() {
            return size;
        }

        int append(int character) {
            if (outside(character, 32, 126)) {
                return INVALID_ARGUMENT;
            }
            if (size >= MOST_SIGNS) {
                return LIMIT_REACHED;
            }
            signs[size] = (char) character;
            size++;
            return size;
        }

        int empty() {
            int old = size;
            size = 0;
            return old;
        }

        boolean hasFault() {
            return reason != NO_FAULT;
        }

        int faultPosition() {
            return faultAt;
        }

        int faultReason() {
            return reason;
        }

        int commandsDone() {
            return done;
        }

        /** Does the commands with a shop, up to the first that is not possible. */
        void run(Shop shop) {
            at = 0;
            done = 0;
            reason = NO_FAULT;
            // Each command that is done takes a sign at least, so that this bound is never short.
            for (int turn = 0; turn < MOST_SIGNS && at < size && reason == NO_FAULT; turn++) {
                faultAt = at;
                reason = runCommand(shop);
                if (reason == NO_FAULT) {
                    done++;
                }
            }
        }

        private int runCommand(Shop shop) {
            int kind = readKind();
            if (kind < 0 || !readNumbers(numbersOf(kind)) || !skipSign(';')) {
                return WRONG_FORM;
            }
            int answer = perform(shop, kind);
            if (answer >= 0) {
                return NO_FAULT;
            }
            return answer == INVALID_ARGUMENT ? OUT_OF_RANGE : NOT_DONE;
        }

        private int perform(Shop shop, int kind) {
            switch (kind) {
                case WEIGHT:
                    return shop.setWeight(numbers[0], numbers[1]);
                case COST:
                    return shop.setCost(numbers[0], numbers[1]);
                case SEASON:
                    return shop.begin(numbers[0], numbers[1]);
                case PLAN:
                    return shop.setPlan(numbers[0], numbers[1], numbers[2]);
                case ORDER:
                    return shop.orderUpTo(numbers[0]);
                case FOLLOW:
                    return shop.followPlan();
                default:
                    return shop.serve(numbers[0]);
            }
        }

        private static String wordOf(int kind) {
            switch (kind) {
                case WEIGHT:
                    return "weight";
                case COST:
                    return "cost";
                case SEASON:
                    return "season";
                case PLAN:
                    return "plan";
                case ORDER:
                    return "order";
                case FOLLOW:
                    return "follow";
                default:
                    return "sell";
            }
        }

        private static int numbersOf(int kind) {
            switch (kind) {
                case FOLLOW:
                    return 0;
                case ORDER:
                case SELL:
                    return 1;
                case PLAN:
                    return 3;
                default:
                    return 2;
            }
        }

        /** Reads a command's word; -1 if there is none. No word is the beginning of another. */
        private int readKind() {
            for (int kind = 0; kind < COMMAND_KINDS; kind++) {
                if (skipWord(wordOf(kind))) {
                    return kind;
                }
            }
            return -1;
        }

        private boolean skipWord(String word) {
            if (word.length() > size - at) {
                return false;
            }
            for (int i = 0; i < word.length(); i++) {
                if (signs[at + i] != word.charAt(i)) {
                    return false;
                }
            }
            at += word.length();
            return true;
        }

        private boolean skipSign(char sign) {
            if (at >= size || signs[at] != sign) {
                return false;
            }
            at++;
            return true;
        }

        /** Reads some numbers, with a blank ahead of each. */
        private boolean readNumbers(int many) {
            for (int i = 0; i < many && i < MOST_NUMBERS; i++) {
                if (!skipSign(' ')) {
                    return false;
                }
                int number = readNumber();
                if (number < 0) {
                    return false;
                }
                numbers[i] = number;
            }
            return true;
        }

        /** Reads a number of one or two digits; -1 if there is none. */
        private int readNumber() {
            int number = -1;
            for (int digits = 0; digits < MOST_DIGITS && at < size; digits++) {
                int digit = signs[at] - '0';
                if (outside(digit, 0, 9)) {
                    return number;
                }
                number = Math.max(0, number) * 10 + digit;
                at++;
            }
            return number;
        }
    }
}
