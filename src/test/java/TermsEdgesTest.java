/** The edges that the document's "Terms" name, sentence by sentence, up to "What really happens". */
public final class TermsEdgesTest {
    private static final int INVALID = OrderLevels.INVALID_ARGUMENT;
    private static final int IMPOSSIBLE = OrderLevels.NOT_POSSIBLE;
    private static final int NONE = OrderLevels.NOT_FOUND;
    private static final int[] MOST_COSTS = {99, 9, 9, 29, 9};

    private static final Checks CHECKS = new Checks();

    public static void main(String[] args) {
        fiveHundredTwelveCalls();
        stocks();
        lowestTerms();
        zeroOverOne();
        demandsAndWeights();
        sumOfWeights();
        costRanges();
        upToTwenty();
        notBelowTheStock();
        noOrder();
        noOrderInTheMean();
        soldAndLost();
        leftBehindTheLast();
        leftBehindTheLastInTheMean();
        lastPeriodWithoutPieces();
        noPeriodLeft();
        sixPeriodsLeft();
        leastOfSeveralLevels();
        stockOfSeveralLevels();
        endsOfTheLevelFunction();
        levelFunctionOfOnePeriod();
        halfTheSumIsNoGap();
        gapsAtTheEnds();
        stockZeroIsNoGap();
        levelsOfAPlan();
        belowTheLowLevel();
        belowTheLowLevelInTheMean();
        periodsOfASeason();
        onceAheadOfTheSale();
        stockStays();
        moneyOverAllSeasons();
        CHECKS.end("edges of the terms");
    }

    private static void due(String call, long got, long want) {
        CHECKS.due(call, got, want);
    }

    private static void says(String sentence) {
        CHECKS.says(sentence);
    }

    private static void least(OrderLevels shop, int stock, int periods, long above, long below) {
        String of = "(" + stock + ", " + periods + ", ";
        due("least" + of + "0)", shop.least(stock, periods, 0), above);
        due("least" + of + "1)", shop.least(stock, periods, 1), below);
    }

    private static void planned(OrderLevels shop, int stock, int periods, long above, long below) {
        String of = "(" + stock + ", " + periods + ", ";
        due("planned" + of + "0)", shop.planned(stock, periods, 0), above);
        due("planned" + of + "1)", shop.planned(stock, periods, 1), below);
    }

    private static void regret(OrderLevels shop, int stock, int periods, long above, long below) {
        String of = "(" + stock + ", " + periods + ", ";
        due("regret" + of + "0)", shop.regret(stock, periods, 0), above);
        due("regret" + of + "1)", shop.regret(stock, periods, 1), below);
    }

    private static void value(OrderLevels shop, int level, int periods, long above, long below) {
        String of = "(" + level + ", " + periods + ", ";
        due("levelValue" + of + "0)", shop.levelValue(level, periods, 0), above);
        due("levelValue" + of + "1)", shop.levelValue(level, periods, 1), below);
    }

    private static void pair(OrderLevels shop, int stock, int periods, long above, long below) {
        String of = "(" + stock + ", " + periods + ", ";
        due("bestPlan" + of + "2)", shop.bestPlan(stock, periods, 2), above);
        due("bestPlan" + of + "3)", shop.bestPlan(stock, periods, 3), below);
    }

    private static void fiveHundredTwelveCalls() {
        says("An object is used for at most 512 calls after it has been made");
        OrderLevels shop = new OrderLevels();
        shop.cost(0, 99);
        shop.cost(1, 9);
        shop.cost(2, 9);
        shop.cost(4, 9);
        int calls = 4;
        int money = 0;
        // Each turn: an order of 20, and 20 pieces left behind the last period.
        for (; calls + 3 <= 509; calls += 3) {
            shop.season(0, 1);
            shop.order(20);
            shop.sell(0);
            money += 99 + 180 + 180 + 180;
        }
        due("calls ahead of the last three", calls, 508);
        shop.season(0, 1);
        due("count(8), call 510", shop.count(8), money);
        due("count(5), call 511", shop.count(5), 20 * 168);
        due("count(9), call 512", shop.count(9), 168);
    }

    private static void stocks() {
        says("A stock has 0 to 20 pieces.");
        OrderLevels shop = new OrderLevels();
        due("season(0, 2)", shop.season(0, 2), 0);
        due("sell(6) of none", shop.sell(6), 0);
        due("count(0) of none", shop.count(0), 0);
        due("season(20, 1)", shop.season(20, 1), 1);
        due("count(0) of 20", shop.count(0), 20);
        due("season(21, 1)", shop.season(21, 1), INVALID);
        due("order(20)", shop.order(20), 0);
        due("season(0, 1)", shop.season(0, 1), 1);
        due("order(21)", shop.order(21), INVALID);
        due("order(20)", shop.order(20), 25);
    }

    private static void lowestTerms() {
        says("Fractions are told in lowest terms with a positive number below");
        // The sum of weights is 6; a piece is demanded in half of all cases, and is left or sold.
        OrderLevels shop = Shops.of(3, 3, 0, 0, 0, 0, 0, 0, 0, 1, 0, 0);
        planned(shop, 1, 1, 1, 2);
        least(shop, 1, 1, 1, 2);
        value(shop, 1, 1, 1, 2);
        pair(shop, 1, 1, 1, 2);
        shop.plan(1, 1, 1);
        regret(shop, 0, 1, 1, 2);
        shop.cost(2, 6);
        regret(shop, 0, 1, 3, 1);
        least(shop, 1, 1, 3, 1);
        OrderLevels twelfths = Shops.of(9, 1, 2, 0, 0, 0, 0, 99, 0, 0, 1, 0);
        least(twelfths, 0, 1, 5, 12);
        least(twelfths, 1, 1, 1, 6);
        least(twelfths, 0, 2, 5, 6);
        // 2/12, then 2/12 in 9 of 12 cases and 5/12 in 3 of 12: 57/144.
        least(twelfths, 1, 2, 19, 48);
    }

    private static void zeroOverOne() {
        says("(0 as 0 over 1)");
        OrderLevels shop = Shops.of(1, 2, 0, 0, 0, 0, 4, 0, 0, 0, 0, 0);
        for (int periods = 0; periods <= 6; periods++) {
            least(shop, 0, periods, 0, 1);
            planned(shop, 20, periods, 0, 1);
            regret(shop, 7, periods, 0, 1);
        }
        for (int periods = 1; periods <= 6; periods++) {
            value(shop, 20, periods, 0, 1);
        }
        for (int periods = 1; periods <= 3; periods++) {
            pair(shop, 3, periods, 0, 1);
        }
    }

    private static void demandsAndWeights() {
        says("The demand of a period is 0 to 6 pieces; each of these demands has a weight (0 to 9;"
                + " 1 for the demand 0 at first, 0 for all others).");
        for (int demand = 0; demand <= 6; demand++) {
            OrderLevels shop = new OrderLevels();
            int first = demand == 0 ? 1 : 0;
            due("setting(0, " + demand + ") at first", shop.setting(0, demand), first);
            due("weigh(" + demand + ", 9)", shop.weigh(demand, 9), 10 - first);
            due("weigh(" + demand + ", 10)", shop.weigh(demand, 10), INVALID);
            due("setting(0, " + demand + ")", shop.setting(0, demand), 9);
            shop.weigh((demand + 1) % 7, 1);
            due("weigh(" + demand + ", 0)", shop.weigh(demand, 0), demand == 0 || demand == 6 ? 1 : 2);
            due("weigh(" + demand + ", -1)", shop.weigh(demand, -1), INVALID);
            due("setting(0, " + demand + ") of 0", shop.setting(0, demand), 0);
            shop.season(6, 1);
            due("sell(" + demand + ")", shop.sell(demand), demand);
        }
        OrderLevels shop = new OrderLevels();
        shop.season(20, 6);
        due("weigh(7, 1)", shop.weigh(7, 1), INVALID);
        due("weigh(-1, 1)", shop.weigh(-1, 1), INVALID);
        due("sell(7)", shop.sell(7), INVALID);
        due("sell(-1)", shop.sell(-1), INVALID);
    }

    private static void sumOfWeights() {
        says("The sum of all weights is 1 to 12.");
        OrderLevels shop = new OrderLevels();
        due("weigh(0, 0) to a sum of 0", shop.weigh(0, 0), IMPOSSIBLE);
        due("count(3) of 1", shop.count(3), 1);
        due("weigh(3, 9)", shop.weigh(3, 9), 10);
        due("weigh(4, 3) to a sum of 13", shop.weigh(4, 3), OrderLevels.LIMIT_REACHED);
        due("weigh(4, 2) to a sum of 12", shop.weigh(4, 2), 12);
        due("weigh(4, 3) in place of 2", shop.weigh(4, 3), OrderLevels.LIMIT_REACHED);
        due("count(3) of 12", shop.count(3), 12);
        due("weigh(0, 0)", shop.weigh(0, 0), 11);
        due("weigh(4, 3) after it", shop.weigh(4, 3), 12);
        due("weigh(3, 0)", shop.weigh(3, 0), 3);
        due("weigh(4, 0) to a sum of 0", shop.weigh(4, 0), IMPOSSIBLE);
        due("weigh(4, 1)", shop.weigh(4, 1), 1);
        due("count(3) of 1", shop.count(3), 1);
    }

    private static void costRanges() {
        says("The costs are (in parentheses: range; first value)");
        int[] first = {5, 1, 1, 4, 0};
        for (int what = 0; what < 5; what++) {
            OrderLevels shop = new OrderLevels();
            int most = MOST_COSTS[what];
            due("cost(" + what + ", " + (most + 1) + ")", shop.cost(what, most + 1), INVALID);
            due("cost(" + what + ", -1)", shop.cost(what, -1), INVALID);
            due("setting(1, " + what + ") at first", shop.setting(1, what), first[what]);
            due("cost(" + what + ", 0)", shop.cost(what, 0), first[what]);
            due("cost(" + what + ", " + most + ")", shop.cost(what, most), 0);
            due("setting(1, " + what + ")", shop.setting(1, what), most);
        }
    }

    private static void upToTwenty() {
        says("the shop orders up to a level of at least the stock, at most 20");
        // Always 6 pieces and a dear order: 24 would be best for four periods.
        OrderLevels shop = Shops.of(0, 0, 0, 0, 0, 0, 1, 99, 0, 0, 20, 0);
        due("best(0, 4)", shop.best(0, 4), 20);
        due("best(19, 4)", shop.best(19, 4), 19);
        due("best(20, 6)", shop.best(20, 6), 20);
        due("shape(4, 0)", shop.shape(4, 0), 20);
        least(shop, 0, 4, 99 + 4 * 20, 1);
        shop.plan(4, 20, 20);
        planned(shop, 0, 4, 99 + 4 * 20, 1);
        shop.season(0, 4);
        due("follow() up to 20", shop.follow(), 20);
    }

    private static void notBelowTheStock() {
        says("the shop orders up to a level of at least the stock");
        // Keeping is dear and nobody buys: a level below the stock would be better.
        OrderLevels shop = Shops.of(1, 0, 0, 0, 0, 0, 0, 0, 0, 9, 0, 9);
        for (int stock = 0; stock <= 20; stock++) {
            due("best(" + stock + ", 6)", shop.best(stock, 6), stock);
            least(shop, stock, 6, stock * (6 * 9 + 9), 1);
        }
        shop.season(8, 2);
        due("order(7) with 8", shop.order(7), IMPOSSIBLE);
        due("order(0) with 8", shop.order(0), IMPOSSIBLE);
        due("order(8) with 8", shop.order(8), 0);
    }

    private static void noOrder() {
        says("(ordering up to the stock itself is no order, and costs nothing)");
        int[] stocks = {0, 7, 20};
        for (int stock : stocks) {
            OrderLevels shop = new OrderLevels();
            shop.cost(0, 99);
            shop.season(stock, 1);
            due("order(" + stock + ")", shop.order(stock), 0);
            due("count(4)", shop.count(4), 0);
            due("count(5)", shop.count(5), 0);
            due("count(8)", shop.count(8), 0);
        }
        OrderLevels shop = new OrderLevels();
        shop.cost(0, 99);
        shop.season(7, 1);
        due("order(8) of one piece", shop.order(8), 100);
        due("count(4) of one piece", shop.count(4), 1);
    }

    private static void noOrderInTheMean() {
        says("(ordering up to the stock itself is no order, and costs nothing)");
        OrderLevels shop = Shops.of(0, 0, 1, 0, 0, 0, 0, 99, 9, 0, 29, 0);
        least(shop, 4, 2, 0, 1);
        least(shop, 3, 2, 29, 1);
        due("best(4, 2)", shop.best(4, 2), 4);
        // A low level of the stock itself, or a high one, is no order in a plan either.
        shop.plan(2, 4, 4);
        planned(shop, 4, 2, 0, 1);
        planned(shop, 3, 2, 99 + 9, 1);
        shop.cost(0, 0);
        shop.cost(1, 0);
        due("best(4, 2) of free orders", shop.best(4, 2), 4);
        due("shape(2, 1) of free orders", shop.shape(2, 1), 1);
    }

    private static void soldAndLost() {
        says("as many pieces as there are, at most, are sold; what is demanded above that is lost");
        int[][] rows = {{0, 0}, {0, 1}, {0, 6}, {5, 6}, {6, 6}, {7, 6}, {20, 6}, {1, 0}, {3, 2}};
        for (int[] row : rows) {
            OrderLevels shop = new OrderLevels();
            shop.cost(3, 10);
            shop.season(row[0], 2);
            int sold = row[1] > row[0] ? row[0] : row[1];
            String of = " of " + row[1] + " from " + row[0];
            due("sell" + of, shop.sell(row[1]), sold);
            due("count(0)" + of, shop.count(0), row[0] - sold);
            due("count(6)" + of, shop.count(6), sold);
            due("count(7)" + of, shop.count(7), row[1] - sold);
            due("count(8)" + of, shop.count(8), row[0] - sold + 10 * (row[1] - sold));
        }
    }

    private static void leftBehindTheLast() {
        says("(behind the last period the cost 4 of each of them besides)");
        OrderLevels shop = new OrderLevels();
        shop.cost(4, 9);
        shop.season(5, 3);
        shop.sell(0);
        due("count(8) with two periods left", shop.count(8), 5);
        shop.sell(1);
        due("count(8) with one period left", shop.count(8), 9);
        shop.sell(1);
        due("count(8) behind the last", shop.count(8), 9 + 3 + 27);
    }

    private static void leftBehindTheLastInTheMean() {
        says("(behind the last period the cost 4 of each of them besides)");
        OrderLevels shop = Shops.of(0, 1, 0, 0, 0, 0, 0, 99, 9, 1, 29, 9);
        least(shop, 5, 1, 4 + 36, 1);
        least(shop, 5, 2, 4 + 3 + 27, 1);
        least(shop, 5, 5, 4 + 3 + 2 + 1, 1);
        planned(shop, 5, 3, 4 + 3 + 2 + 18, 1);
        pair(shop, 5, 3, 4 + 3 + 2 + 18, 1);
        value(shop, 5, 3, 45 + 4 + 3 + 2 + 18, 1);
    }

    private static void lastPeriodWithoutPieces() {
        says("of the pieces that are left (behind the last period the cost 4 of each of them"
                + " besides), and of those that are lost");
        OrderLevels shop = new OrderLevels();
        shop.cost(2, 9);
        shop.cost(4, 9);
        shop.season(6, 1);
        shop.sell(6);
        due("count(8) of none left", shop.count(8), 0);
        shop.season(0, 1);
        shop.sell(6);
        due("count(8) of 6 lost", shop.count(8), 24);
    }

    private static void noPeriodLeft() {
        says("with no period left it is the cost 4 times the stock");
        OrderLevels shop = Shops.of(0, 5, 0, 0, 0, 0, 7, 99, 9, 9, 29, 9);
        for (int periods = 1; periods <= 6; periods++) {
            shop.plan(periods, 20, 20);
        }
        for (int stock = 0; stock <= 20; stock++) {
            least(shop, stock, 0, 9 * stock, 1);
            planned(shop, stock, 0, 9 * stock, 1);
            regret(shop, stock, 0, 0, 1);
        }
        shop.cost(4, 0);
        least(shop, 20, 0, 0, 1);
    }

    private static void sixPeriodsLeft() {
        says("The mean cost of a stock with n periods left (0 to 6)");
        // Every period costs 1 of a piece left, or 29 of one that is lost.
        OrderLevels shop = Shops.of(1, 0, 0, 0, 0, 0, 0, 99, 0, 1, 29, 0);
        least(shop, 20, 6, 120, 1);
        planned(shop, 20, 6, 120, 1);
        value(shop, 20, 6, 120, 1);
        OrderLevels lost = Shops.of(0, 0, 0, 0, 0, 0, 1, 99, 9, 9, 0, 9);
        lost.cost(3, 8);
        planned(lost, 0, 6, 6 * 48, 1);
        value(lost, 0, 6, 6 * 48, 1);
    }

    private static void leastOfSeveralLevels() {
        says("of several levels the least one is taken");
        // All orders and pieces are free: each level from 1 on is as good as the next.
        OrderLevels shop = Shops.of(0, 1, 0, 0, 0, 0, 0, 0, 0, 0, 4, 0);
        for (int periods = 1; periods <= 6; periods++) {
            due("best(0, " + periods + ")", shop.best(0, periods), 1);
            due("best(1, " + periods + ")", shop.best(1, periods), 1);
            due("best(20, " + periods + ")", shop.best(20, periods), 20);
        }
        // A piece bought ahead costs 1 to keep, which a second order of 1 costs too.
        OrderLevels ahead = Shops.of(0, 1, 0, 0, 0, 0, 0, 1, 1, 1, 29, 0);
        due("best(0, 2) of 1 and 2", ahead.best(0, 2), 1);
        ahead.cost(0, 2);
        due("best(0, 2) of a dearer order", ahead.best(0, 2), 2);
    }

    private static void stockOfSeveralLevels() {
        says("of several levels the least one is taken");
        // An order of 3 with a piece of 1 is as dear as the piece lost: the stock itself.
        OrderLevels shop = Shops.of(0, 1, 0, 0, 0, 0, 0, 3, 1, 0, 4, 0);
        due("best(0, 1) of alike", shop.best(0, 1), 0);
        due("shape(1, 1) of alike", shop.shape(1, 1), NONE);
        due("shape(1, 6) of alike", shop.shape(1, 6), 0);
        shop.cost(3, 5);
        due("best(0, 1) of a dearer loss", shop.best(0, 1), 1);
        due("shape(1, 1) of a dearer loss", shop.shape(1, 1), 0);
    }

    private static void endsOfTheLevelFunction() {
        says("The level function of n periods (1 to 6) tells, for each level from 0 to 20");
        OrderLevels shop = Shops.of(0, 0, 0, 0, 0, 0, 1, 99, 9, 9, 1, 9);
        // Level 0: 6 lost in each period; level 20: 14, 8 and 2 are left.
        value(shop, 0, 1, 6, 1);
        value(shop, 0, 6, 36, 1);
        value(shop, 20, 1, 180 + 14 * 18, 1);
        value(shop, 20, 6, 180 + 9 * (14 + 8 + 2) + 4 + 6 + 6, 1);
        due("levelValue(-1, 1, 0)", shop.levelValue(-1, 1, 0), INVALID);
        due("levelValue(21, 1, 0)", shop.levelValue(21, 1, 0), INVALID);
        due("levelValue(0, 0, 0)", shop.levelValue(0, 0, 0), INVALID);
        due("levelValue(0, 7, 0)", shop.levelValue(0, 7, 0), INVALID);
    }

    private static void levelFunctionOfOnePeriod() {
        says("plus the mean cost by the best way with n - 1 periods left behind it");
        OrderLevels shop = Shops.of(1, 0, 1, 0, 0, 0, 0, 99, 3, 1, 29, 5);
        value(shop, 0, 1, 29, 1);
        // 3, half of the cases 1 + 5 and half 29.
        value(shop, 1, 1, 3 * 2 + 6 + 29, 2);
        value(shop, 2, 1, 6 + 6, 1);
        value(shop, 3, 1, 9 + 9 + 3, 1);
    }

    private static void halfTheSumIsNoGap() {
        says("A gap of convexity of the level function is a level from 1 to 19 at which its value is"
                + " greater than half the sum of the values at the levels next below and next above.");
        // Straight lines: rising, level.
        OrderLevels rising = Shops.of(1, 0, 0, 0, 0, 0, 0, 5, 1, 1, 4, 9);
        OrderLevels level = Shops.of(1, 0, 0, 0, 0, 0, 0, 0, 0, 0, 0, 0);
        for (int periods = 1; periods <= 6; periods++) {
            due("rising shape(" + periods + ", 2)", rising.shape(periods, 2), 0);
            due("rising shape(" + periods + ", 3)", rising.shape(periods, 3), NONE);
            due("level shape(" + periods + ", 2)", level.shape(periods, 2), 0);
            due("level shape(" + periods + ", 3)", level.shape(periods, 3), NONE);
        }
        // Always one piece, an order of 3: 32, 3, 1, 3, 5 and so on has no gap, three periods have.
        OrderLevels one = Shops.of(0, 1, 0, 0, 0, 0, 0, 3, 0, 1, 29, 0);
        due("shape(2, 2)", one.shape(2, 2), 0);
        int[] values = {29 + 4, 4, 4, 3, 6};
        for (int stock = 0; stock < values.length; stock++) {
            value(one, stock, 3, values[stock], 1);
        }
        due("shape(3, 2)", one.shape(3, 2), 1);
        due("shape(3, 3)", one.shape(3, 3), 2);
    }

    private static void gapsAtTheEnds() {
        says("A gap of convexity of the level function is a level from 1 to 19");
        OrderLevels low = Shops.of(1, 0, 3, 3, 0, 0, 0, 5, 3, 3, 8, 3);
        due("shape(2, 2) of the level 1", low.shape(2, 2), 1);
        due("shape(2, 3) of the level 1", low.shape(2, 3), 1);
        OrderLevels high = Shops.of(0, 2, 0, 0, 1, 0, 0, 1, 0, 3, 9, 0);
        due("shape(6, 2) of the level 19", high.shape(6, 2), 1);
        due("shape(6, 3) of the level 19", high.shape(6, 3), 19);
    }

    private static void stockZeroIsNoGap() {
        says("A gap of order is a stock from 1 to 20 from which the best way orders with n periods"
                + " left, while it does not from the stock less by 1.");
        // It orders from 0 alone, from 0 to 4 together, and never.
        OrderLevels zero = Shops.of(0, 2, 0, 0, 0, 0, 0, 5, 0, 0, 13, 7);
        due("shape(6, 1)", zero.shape(6, 1), 0);
        due("shape(6, 4) of the stock 0", zero.shape(6, 4), 0);
        due("shape(6, 5) of the stock 0", zero.shape(6, 5), NONE);
        OrderLevels four = Shops.of(1, 0, 1, 0, 0, 3, 0, 0, 5, 0, 13, 0);
        due("shape(6, 1)", four.shape(6, 1), 4);
        due("shape(6, 4) of 0 to 4", four.shape(6, 4), 0);
        due("shape(6, 5) of 0 to 4", four.shape(6, 5), NONE);
        OrderLevels never = new OrderLevels();
        due("shape(6, 4) of none", never.shape(6, 4), 0);
        due("shape(6, 5) of none", never.shape(6, 5), NONE);
    }

    private static void levelsOfAPlan() {
        says("a low one and a high one (0 to 20, the low one is at most the high one; both are 0 at"
                + " first)");
        for (int periods = 1; periods <= 6; periods++) {
            OrderLevels shop = new OrderLevels();
            due("setting(2, " + periods + ") at first", shop.setting(2, periods), 0);
            due("setting(3, " + periods + ") at first", shop.setting(3, periods), 0);
            due("plan of 20 and 20", shop.plan(periods, 20, 20), 0);
            due("plan of 20 and 19", shop.plan(periods, 20, 19), INVALID);
            due("plan of 20 and 21", shop.plan(periods, 20, 21), INVALID);
            due("plan of 1 and 0", shop.plan(periods, 1, 0), INVALID);
            due("plan of 0 and 0", shop.plan(periods, 0, 0), 2020);
            due("plan of -1 and 0", shop.plan(periods, -1, 0), INVALID);
            due("plan of 0 and -1", shop.plan(periods, 0, -1), INVALID);
            due("plan of 0 and 20", shop.plan(periods, 0, 20), 0);
            due("setting(2, " + periods + ")", shop.setting(2, periods), 0);
            due("setting(3, " + periods + ")", shop.setting(3, periods), 20);
        }
    }

    private static void belowTheLowLevel() {
        says("a shop with a stock of less than the low level orders up to the high one; otherwise it"
                + " does not order");
        int[][] rows = {
            {4, 5, 9, 9}, {5, 5, 9, 5}, {6, 5, 9, 6}, {4, 5, 5, 5}, {5, 5, 5, 5}, {0, 0, 20, 0},
            {0, 1, 1, 1}, {19, 20, 20, 20}, {20, 20, 20, 20}, {20, 3, 9, 20}, {7, 5, 9, 7},
        };
        for (int[] row : rows) {
            OrderLevels shop = new OrderLevels();
            shop.plan(6, row[1], row[2]);
            shop.season(row[0], 6);
            String of = " from " + row[0] + " by " + row[1] + ", " + row[2];
            due("follow()" + of, shop.follow(), row[3]);
            due("count(4)" + of, shop.count(4), row[3] > row[0] ? 1 : 0);
            due("count(5)" + of, shop.count(5), row[3] - row[0]);
            due("count(8)" + of, shop.count(8), row[3] > row[0] ? 5 + row[3] - row[0] : 0);
        }
    }

    private static void belowTheLowLevelInTheMean() {
        says("a shop with a stock of less than the low level orders up to the high one; otherwise it"
                + " does not order");
        // Nobody buys and keeping is free: only what is ordered costs.
        OrderLevels shop = Shops.of(1, 0, 0, 0, 0, 0, 0, 40, 2, 0, 0, 0);
        shop.plan(1, 5, 9);
        planned(shop, 4, 1, 40 + 10, 1);
        planned(shop, 5, 1, 0, 1);
        planned(shop, 6, 1, 0, 1);
        shop.plan(1, 20, 20);
        planned(shop, 19, 1, 42, 1);
        planned(shop, 20, 1, 0, 1);
        shop.plan(1, 0, 20);
        planned(shop, 0, 1, 0, 1);
        shop.plan(1, 1, 1);
        planned(shop, 0, 1, 42, 1);
    }

    private static void periodsOfASeason() {
        says("A season has some periods left (0 to 6, 0 at first) and a stock (0 at first).");
        OrderLevels shop = new OrderLevels();
        due("count(1) at first", shop.count(1), 0);
        due("count(0) at first", shop.count(0), 0);
        due("season(3, 7)", shop.season(3, 7), INVALID);
        due("season(3, 6)", shop.season(3, 6), 0);
        for (int left = 5; left >= 0; left--) {
            due("sell(0)", shop.sell(0), 0);
            due("count(1)", shop.count(1), left);
        }
        due("sell(0) behind the last", shop.sell(0), IMPOSSIBLE);
        due("count(1) behind the last", shop.count(1), 0);
    }

    private static void onceAheadOfTheSale() {
        says("In each of its periods it can be ordered once, ahead of the sale; the sale ends the"
                + " period.");
        OrderLevels shop = new OrderLevels();
        shop.season(0, 3);
        due("order(2)", shop.order(2), 7);
        due("order(3) twice", shop.order(3), IMPOSSIBLE);
        due("sell(0)", shop.sell(0), 0);
        due("order(3) in the next period", shop.order(3), 6);
        due("follow() after it", shop.follow(), IMPOSSIBLE);
        due("sell(6)", shop.sell(6), 3);
        due("sell(1), which ends the last period", shop.sell(1), 0);
        due("order(4) behind it", shop.order(4), IMPOSSIBLE);
        due("count(2)", shop.count(2), 0);
    }

    private static void stockStays() {
        says("The stock stays when the last one has ended.");
        OrderLevels shop = new OrderLevels();
        shop.season(20, 1);
        shop.sell(1);
        due("count(0)", shop.count(0), 19);
        due("order(20)", shop.order(20), IMPOSSIBLE);
        due("count(0) after an error", shop.count(0), 19);
        shop.season(2, 1);
        shop.sell(6);
        due("count(0) of none", shop.count(0), 0);
    }

    private static void moneyOverAllSeasons() {
        says("Money that was spent is counted over all seasons.");
        OrderLevels shop = new OrderLevels();
        due("count(8) at first", shop.count(8), 0);
        shop.season(0, 1);
        shop.order(2);
        shop.sell(1);
        due("count(8) of one season", shop.count(8), 8);
        shop.season(0, 2);
        due("count(8) of a new season", shop.count(8), 8);
        shop.order(1);
        shop.season(0, 1);
        due("count(8) of a season broken off", shop.count(8), 14);
        shop.sell(2);
        due("count(8) of three seasons", shop.count(8), 22);
    }
}
