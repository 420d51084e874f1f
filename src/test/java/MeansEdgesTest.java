/** The edges that promises 12 to 18 name, sentence by sentence. */
public final class MeansEdgesTest {
    private static final int INVALID = OrderLevels.INVALID_ARGUMENT;
    private static final int NONE = OrderLevels.NOT_FOUND;

    private static final Checks CHECKS = new Checks();

    public static void main(String[] args) {
        leastRanges();
        leastOfTheBestWay();
        leastParts();
        bestRanges();
        bestIsTheStock();
        bestEnds();
        plannedRanges();
        plannedByThePlan();
        plannedLevelsOfEachPeriod();
        regretRanges();
        regretOfNone();
        regretOfSome();
        levelValueRanges();
        levelValueEnds();
        shapeRanges();
        leastLevelOfSeveral();
        leastLevelEnds();
        greatestOrderingStock();
        noOrderingStock();
        convexityGaps();
        noConvexityGap();
        orderGaps();
        unlikeLevels();
        pairRanges();
        pairOfSeveral();
        pairLowestLow();
        pairLowestHigh();
        pairHighest();
        pairOfAllPeriods();
        pairEnd();
        meansChangeNothing();
        CHECKS.end("edges of promises 12 to 18");
    }

    private static void due(String call, long got, long want) {
        CHECKS.due(call, got, want);
    }

    private static void says(String sentence) {
        CHECKS.says(sentence);
    }

    private static void leastRanges() {
        says("`stock`: 0 to 20; `periods`: 0 to 6; `part`: 0: above; 1: below");
        OrderLevels shop = new OrderLevels();
        CHECKS.range("the stock of least", 0, 20, stock -> shop.least(stock, 6, 0));
        CHECKS.range("the periods of least", 0, 6, periods -> shop.least(20, periods, 1));
        CHECKS.range("the part of least", 0, 1, part -> shop.least(0, 0, part));
    }

    private static void leastOfTheBestWay() {
        says("Returns the mean cost of a stock by the best way of ordering.");
        // Always 2 pieces; losing one costs 4, an order 5 and a piece 1.
        OrderLevels shop = Shops.of(0, 0, 1, 0, 0, 0, 0, 5, 1, 1, 4, 2);
        due("least(0, 1, 0)", shop.least(0, 1, 0), 7);
        due("least(1, 1, 0), 1 lost rather than an order", shop.least(1, 1, 0), 4);
        due("least(2, 1, 0)", shop.least(2, 1, 0), 0);
        due("least(20, 1, 0), 18 left", shop.least(20, 1, 0), 18 + 36);
        due("least(0, 6, 0), three orders of 4", shop.least(0, 6, 0), 3 * (5 + 4 + 2));
    }

    private static void leastParts() {
        says("`part`: 0: above; 1: below");
        OrderLevels shop = Shops.of(9, 3, 0, 0, 0, 0, 0, 99, 0, 0, 1, 0);
        due("least(0, 1, 0)", shop.least(0, 1, 0), 1);
        due("least(0, 1, 1)", shop.least(0, 1, 1), 4);
        due("least(0, 6, 0)", shop.least(0, 6, 0), 3);
        due("least(0, 6, 1)", shop.least(0, 6, 1), 2);
        due("levelValue(0, 1, 1)", shop.levelValue(0, 1, 1), 4);
        due("planned(0, 1, 1)", shop.planned(0, 1, 1), 4);
        due("regret(0, 1, 1)", shop.regret(0, 1, 1), 1);
        due("bestPlan(0, 1, 2)", shop.bestPlan(0, 1, 2), 1);
        due("bestPlan(0, 1, 3)", shop.bestPlan(0, 1, 3), 4);
    }

    private static void bestRanges() {
        says("`stock`: 0 to 20; `periods`: 1 to 6");
        OrderLevels shop = new OrderLevels();
        CHECKS.range("the stock of best", 0, 20, stock -> shop.best(stock, 1));
        CHECKS.range("the periods of best", 1, 6, periods -> shop.best(0, periods));
    }

    private static void bestIsTheStock() {
        says("Returns the level, the stock itself if it does not order");
        OrderLevels never = new OrderLevels();
        for (int stock = 0; stock <= 20; stock++) {
            due("best(" + stock + ", 1)", never.best(stock, 1), stock);
            due("best(" + stock + ", 6)", never.best(stock, 6), stock);
        }
        OrderLevels always = Shops.of(0, 0, 0, 0, 0, 0, 1, 0, 0, 1, 29, 0);
        for (int stock = 0; stock <= 20; stock++) {
            due("best(" + stock + ", 1)", always.best(stock, 1), stock < 6 ? 6 : stock);
        }
    }

    private static void bestEnds() {
        says("Returns the level up to which the best way orders.");
        // Four periods of 5 pieces: 20 at once from 0 on, and from 20 nothing.
        OrderLevels shop = Shops.of(0, 0, 0, 0, 0, 1, 0, 99, 0, 0, 29, 0);
        due("best(0, 4)", shop.best(0, 4), 20);
        due("best(0, 3)", shop.best(0, 3), 15);
        due("best(0, 1)", shop.best(0, 1), 5);
        due("best(20, 4)", shop.best(20, 4), 20);
        // From 1, losing 4 of the first 5 pieces is dearer than the order.
        due("best(1, 4)", shop.best(1, 4), 20);
    }

    private static void plannedRanges() {
        says("`stock`: 0 to 20; `periods`: 0 to 6; `part`: 0: above; 1: below");
        OrderLevels shop = new OrderLevels();
        CHECKS.range("the stock of planned", 0, 20, stock -> shop.planned(stock, 6, 0));
        CHECKS.range("the periods of planned", 0, 6, periods -> shop.planned(20, periods, 1));
        CHECKS.range("the part of planned", 0, 1, part -> shop.planned(0, 0, part));
    }

    private static void plannedByThePlan() {
        says("Returns the mean cost of a stock by the plan.");
        OrderLevels shop = Shops.of(0, 0, 1, 0, 0, 0, 0, 5, 1, 1, 4, 2);
        due("planned(0, 6, 0) without levels", shop.planned(0, 6, 0), 6 * 8);
        for (int periods = 1; periods <= 6; periods++) {
            shop.plan(periods, 20, 20);
        }
        // 20 at first, then 2 in each period; 18 are left each time.
        due("planned(0, 6, 0) of 20", shop.planned(0, 6, 0), 25 + 5 * 7 + 6 * 18 + 36);
        due("planned(20, 6, 0) of 20", shop.planned(20, 6, 0), 5 * 7 + 6 * 18 + 36);
        due("planned(20, 1, 0) of 20", shop.planned(20, 1, 0), 18 + 36);
    }

    private static void plannedLevelsOfEachPeriod() {
        says("two levels for each number of periods left, 1 to 6");
        // Nobody buys: the order is made with so many periods left as have the levels.
        for (int left = 1; left <= 6; left++) {
            OrderLevels shop = Shops.of(1, 0, 0, 0, 0, 0, 0, 7, 0, 1, 0, 0);
            shop.plan(left, 1, 3);
            for (int periods = 1; periods <= 6; periods++) {
                due("planned(0, " + periods + ", 0) by " + left, shop.planned(0, periods, 0),
                        periods < left ? 0 : 7 + 3 * left);
            }
        }
    }

    private static void regretRanges() {
        says("`stock`: 0 to 20; `periods`: 0 to 6; `part`: 0: above; 1: below");
        OrderLevels shop = new OrderLevels();
        CHECKS.range("the stock of regret", 0, 20, stock -> shop.regret(stock, 6, 0));
        CHECKS.range("the periods of regret", 0, 6, periods -> shop.regret(20, periods, 1));
        CHECKS.range("the part of regret", 0, 1, part -> shop.regret(0, 0, part));
    }

    private static void regretOfNone() {
        says("Fractions are told in lowest terms with a positive number below (0 as 0 over 1).");
        // The plan orders just as the best way does.
        OrderLevels shop = Shops.of(2, 0, 3, 0, 0, 1, 0, 6, 1, 1, 9, 0);
        for (int periods = 1; periods <= 6; periods++) {
            shop.plan(periods, shop.shape(periods, 1) + 1, shop.best(0, periods));
        }
        for (int periods = 0; periods <= 6; periods++) {
            for (int stock = 0; stock <= 20; stock++) {
                due("regret(" + stock + ", " + periods + ", 0)", shop.regret(stock, periods, 0), 0);
                due("regret(" + stock + ", " + periods + ", 1)", shop.regret(stock, periods, 1), 1);
            }
        }
    }

    private static void regretOfSome() {
        says("Tells by how much the mean cost by the plan is greater than the least one.");
        // Half of the customers want 1: a mean of 2 lost, or 1 for an order of 0 and 1.
        OrderLevels shop = Shops.of(1, 1, 0, 0, 0, 0, 0, 0, 1, 0, 4, 0);
        due("planned(0, 1, 0)", shop.planned(0, 1, 0), 2);
        due("least(0, 1, 0)", shop.least(0, 1, 0), 1);
        due("regret(0, 1, 0)", shop.regret(0, 1, 0), 1);
        due("regret(0, 1, 1)", shop.regret(0, 1, 1), 1);
        shop.cost(2, 1);
        due("regret(0, 1, 0) of a half", shop.regret(0, 1, 0), 1);
        due("regret(0, 1, 1) of a half", shop.regret(0, 1, 1), 2);
        shop.plan(1, 20, 20);
        // 20 ordered, 19 and a half left, in place of 1 and a half.
        due("regret(0, 1, 0) of 20", shop.regret(0, 1, 0), 38);
        due("regret(20, 1, 0)", shop.regret(20, 1, 0), 0);
    }

    private static void levelValueRanges() {
        says("`level`: 0 to 20; `periods`: 1 to 6; `part`: 0: above; 1: below");
        OrderLevels shop = new OrderLevels();
        CHECKS.range("the level of levelValue", 0, 20, level -> shop.levelValue(level, 6, 0));
        CHECKS.range("the periods of levelValue", 1, 6, periods -> shop.levelValue(20, periods, 1));
        CHECKS.range("the part of levelValue", 0, 1, part -> shop.levelValue(0, 1, part));
    }

    private static void levelValueEnds() {
        says("the cost 1 times the level, plus the mean of the costs 2 and 3 of the pieces that are"
                + " left and lost in the first of these periods");
        OrderLevels shop = Shops.of(1, 0, 0, 0, 0, 0, 1, 99, 2, 3, 5, 0);
        due("levelValue(0, 1, 0)", shop.levelValue(0, 1, 0), 15);
        due("levelValue(0, 1, 1)", shop.levelValue(0, 1, 1), 1);
        // 2 * 5, half 3 * 5 and half 5.
        due("levelValue(5, 1, 0)", shop.levelValue(5, 1, 0), 20);
        due("levelValue(6, 1, 0)", shop.levelValue(6, 1, 0), 12 + 9);
        due("levelValue(7, 1, 0)", shop.levelValue(7, 1, 0), 14 + 12);
        due("levelValue(20, 1, 0)", shop.levelValue(20, 1, 0), 40 + 30 + 21);
    }

    private static void shapeRanges() {
        says("`periods`: 1 to 6; `what`: 0 .. 6");
        OrderLevels shop = new OrderLevels();
        CHECKS.range("the periods of shape", 1, 6, periods -> shop.shape(periods, 0));
        CHECKS.range("the periods of shape 1", 1, 6, periods -> shop.shape(periods, 1));
        CHECKS.range("the what of shape", 0, 6, what -> shop.shape(6, what));
    }

    private static void leastLevelOfSeveral() {
        says("0: the level at which the level function is least, of several the least one");
        OrderLevels free = Shops.of(1, 0, 0, 0, 0, 0, 0, 0, 0, 0, 0, 0);
        OrderLevels three = Shops.of(0, 0, 0, 1, 0, 0, 0, 0, 0, 0, 1, 0);
        for (int periods = 1; periods <= 6; periods++) {
            due("shape(" + periods + ", 0) of all alike", free.shape(periods, 0), 0);
            due("shape(" + periods + ", 0) of 3 and above", three.shape(periods, 0), 3);
        }
        // Two valleys alike: one piece for one period, or two with one kept.
        OrderLevels one = Shops.of(0, 1, 0, 0, 0, 0, 0, 1, 1, 1, 29, 0);
        due("levelValue(1, 2, 0)", one.levelValue(1, 2, 0), 3);
        due("levelValue(2, 2, 0)", one.levelValue(2, 2, 0), 3);
        due("shape(2, 0)", one.shape(2, 0), 1);
    }

    private static void leastLevelEnds() {
        says("0: the level at which the level function is least");
        due("shape(6, 0) at 0", new OrderLevels().shape(6, 0), 0);
        OrderLevels shop = Shops.of(0, 0, 0, 0, 0, 1, 0, 99, 0, 0, 29, 0);
        due("shape(4, 0) at 20", shop.shape(4, 0), 20);
        // Least at 4 though an order of 5 is too dear even from 0: it tells of the function alone.
        OrderLevels dear = Shops.of(0, 0, 0, 0, 1, 0, 0, 99, 1, 1, 9, 0);
        due("shape(1, 0) without an order", dear.shape(1, 0), 4);
        due("best(0, 1) without an order", dear.best(0, 1), 0);
    }

    private static void greatestOrderingStock() {
        says("1: the greatest stock from which it orders");
        OrderLevels shop = Shops.of(0, 0, 0, 0, 0, 0, 1, 0, 0, 1, 29, 0);
        due("shape(1, 1)", shop.shape(1, 1), 5);
        due("shape(6, 1)", shop.shape(6, 1), 5);
        shop.cost(0, 29);
        due("shape(1, 1), 1 lost as dear as an order", shop.shape(1, 1), 4);
        shop.cost(0, 28);
        due("shape(1, 1), 1 lost dearer than an order", shop.shape(1, 1), 5);
        OrderLevels zero = Shops.of(0, 1, 0, 0, 0, 0, 0, 1, 1, 1, 29, 0);
        due("shape(1, 1) of the stock 0", zero.shape(1, 1), 0);
    }

    private static void noOrderingStock() {
        says("NOT_FOUND for 1, 3 and 5 if there is none");
        OrderLevels shop = new OrderLevels();
        for (int periods = 1; periods <= 6; periods++) {
            due("shape(" + periods + ", 1)", shop.shape(periods, 1), NONE);
            due("shape(" + periods + ", 3)", shop.shape(periods, 3), NONE);
            due("shape(" + periods + ", 5)", shop.shape(periods, 5), NONE);
            due("shape(" + periods + ", 0)", shop.shape(periods, 0), 0);
            due("shape(" + periods + ", 2)", shop.shape(periods, 2), 0);
            due("shape(" + periods + ", 4)", shop.shape(periods, 4), 0);
            due("shape(" + periods + ", 6)", shop.shape(periods, 6), 0);
        }
    }

    private static void convexityGaps() {
        says("2: how many gaps of convexity there are; 3: the first one");
        OrderLevels shop = Shops.of(1, 0, 0, 0, 0, 3, 0, 7, 0, 4, 7, 8);
        due("shape(6, 2)", shop.shape(6, 2), 14);
        due("shape(6, 3)", shop.shape(6, 3), 3);
        int gaps = 0;
        int first = NONE;
        for (int level = 19; level >= 1; level--) {
            if (bends(shop, level)) {
                gaps++;
                first = level;
            }
        }
        due("shape(6, 2) by levelValue", shop.shape(6, 2), gaps);
        due("shape(6, 3) by levelValue", shop.shape(6, 3), first);
    }

    private static boolean bends(OrderLevels shop, int level) {
        Fraction here = value(shop, level);
        Fraction sum = value(shop, level - 1).plus(value(shop, level + 1));
        return here.plus(here).compareTo(sum) > 0;
    }

    private static Fraction value(OrderLevels shop, int level) {
        return Fraction.of(shop.levelValue(level, 6, 0), shop.levelValue(level, 6, 1));
    }

    private static void noConvexityGap() {
        says("NOT_FOUND for 1, 3 and 5 if there is none");
        // With one period left the level function falls by 9 over 4 down to 15 at 5, without a gap;
        // at 1 it is still more than 7 above that, at 2 no more.
        OrderLevels shop = Shops.of(1, 0, 0, 0, 0, 3, 0, 7, 0, 4, 7, 8);
        due("levelValue(1, 1, 0)", shop.levelValue(1, 1, 0), 24);
        due("levelValue(5, 1, 0)", shop.levelValue(5, 1, 0), 15);
        due("shape(1, 1)", shop.shape(1, 1), 1);
        due("shape(1, 2)", shop.shape(1, 2), 0);
        due("shape(1, 3)", shop.shape(1, 3), NONE);
    }

    private static void orderGaps() {
        says("4: how many gaps of order there are; 5: the first one");
        OrderLevels shop = Shops.of(1, 0, 0, 0, 0, 3, 0, 7, 0, 4, 7, 8);
        for (int periods = 1; periods <= 6; periods++) {
            int gaps = 0;
            for (int stock = 1; stock <= 20; stock++) {
                boolean orders = shop.best(stock, periods) > stock;
                boolean below = shop.best(stock - 1, periods) > stock - 1;
                gaps += orders && !below ? 1 : 0;
            }
            due("shape(" + periods + ", 4)", shop.shape(periods, 4), gaps);
            due("shape(" + periods + ", 5)", shop.shape(periods, 5), NONE);
        }
    }

    private static void unlikeLevels() {
        says("6: how many unlike levels it orders up to");
        // From 0 to 5 always up to 6: one level; from other stocks it does not order.
        OrderLevels shop = Shops.of(0, 0, 0, 0, 0, 0, 1, 0, 0, 1, 29, 0);
        due("shape(1, 6)", shop.shape(1, 6), 1);
        due("shape(6, 6)", shop.shape(6, 6), 1);
        due("shape(1, 6) of none", new OrderLevels().shape(1, 6), 0);
        shop.cost(0, 99);
        shop.cost(3, 17);
        due("shape(1, 6) from the stock 0 alone", shop.shape(1, 6), 1);
        due("shape(1, 1) from the stock 0 alone", shop.shape(1, 1), 0);
        shop.cost(3, 16);
        due("shape(1, 6) of none", shop.shape(1, 6), 0);
    }

    private static void pairRanges() {
        says("`stock`: 0 to 20; `periods`: 1 to 3; `what`: 0: its low level; 1: its high level; 2, 3:"
                + " its mean cost, above and below");
        OrderLevels shop = new OrderLevels();
        CHECKS.range("the stock of bestPlan", 0, 20, stock -> shop.bestPlan(stock, 1, 0));
        CHECKS.range("the periods of bestPlan", 1, 3, periods -> shop.bestPlan(0, periods, 3));
        CHECKS.range("the what of bestPlan", 0, 3, what -> shop.bestPlan(20, 3, what));
    }

    private static void pair(OrderLevels shop, int stock, int periods, int... want) {
        for (int what = 0; what <= 3; what++) {
            due("bestPlan(" + stock + ", " + periods + ", " + what + ")",
                    shop.bestPlan(stock, periods, what), want[what]);
        }
    }

    private static void pairOfSeveral() {
        says("of several the one with the lowest low level, then with the lowest high level");
        // All plans are alike where nothing costs anything, or where no order is worth it.
        OrderLevels free = Shops.of(0, 0, 0, 0, 0, 0, 1, 0, 0, 0, 0, 0);
        OrderLevels never = new OrderLevels();
        for (int periods = 1; periods <= 3; periods++) {
            pair(free, 0, periods, 0, 0, 0, 1);
            pair(free, 20, periods, 0, 0, 0, 1);
            pair(never, 5, periods, 0, 0, 5 * periods, 1);
        }
    }

    private static void pairLowestLow() {
        says("of several the one with the lowest low level");
        // From 3 each low level from 4 on orders; 4 is the lowest.
        OrderLevels shop = Shops.of(0, 0, 0, 0, 0, 0, 1, 0, 0, 1, 29, 0);
        pair(shop, 3, 1, 4, 6, 0, 1);
        pair(shop, 5, 1, 6, 6, 0, 1);
        pair(shop, 6, 1, 0, 0, 0, 1);
        pair(shop, 0, 1, 1, 6, 0, 1);
        // In the second period the stock is 0: a low level of 1 orders both times.
        pair(shop, 0, 2, 1, 6, 0, 1);
        pair(shop, 5, 2, 6, 6, 0, 1);
    }

    private static void pairLowestHigh() {
        says("then with the lowest high level");
        // Keeping is free: each high level from 3 on is as good as the next.
        OrderLevels shop = Shops.of(0, 0, 0, 1, 0, 0, 0, 4, 0, 0, 9, 0);
        pair(shop, 0, 1, 1, 3, 4, 1);
        pair(shop, 0, 2, 1, 6, 4, 1);
        pair(shop, 0, 3, 1, 9, 4, 1);
        pair(shop, 9, 3, 0, 0, 0, 1);
    }

    private static void pairHighest() {
        says("Finds the plan with the same two levels for all numbers of periods left, by which the"
                + " mean cost of a stock is least");
        OrderLevels shop = Shops.of(0, 0, 0, 0, 0, 0, 1, 99, 0, 0, 29, 0);
        pair(shop, 0, 3, 1, 18, 99, 1);
        pair(shop, 17, 3, 0, 0, 29, 1);
        shop.cost(0, 0);
        pair(shop, 17, 3, 6, 6, 0, 1);
        pair(shop, 18, 3, 0, 0, 0, 1);
        // The best plan costs what the least mean cost is, or more.
        shop.cost(2, 1);
        pair(shop, 0, 3, 1, 6, 0, 1);
    }

    private static void pairOfAllPeriods() {
        says("the same two levels for all numbers of periods left");
        // The last period alone would rather not order, which the same levels do not allow.
        OrderLevels shop = Shops.of(0, 0, 1, 0, 0, 0, 0, 7, 1, 0, 4, 0);
        due("least(0, 1, 0)", shop.least(0, 1, 0), 8);
        pair(shop, 0, 1, 0, 0, 8, 1);
        pair(shop, 0, 2, 1, 4, 11, 1);
        pair(shop, 0, 3, 1, 6, 13, 1);
        pair(shop, 2, 3, 1, 4, 11, 1);
        shop.plan(3, 20, 20);
        pair(shop, 2, 3, 1, 4, 11, 1);
    }

    private static void pairEnd() {
        says("with no period left it is the cost 4 times the stock");
        // Nobody buys; all 5 pieces are kept for a 1 each period and left behind for a 9 each.
        OrderLevels kept = Shops.of(1, 0, 0, 0, 0, 0, 0, 5, 1, 1, 4, 9);
        pair(kept, 5, 1, 0, 0, 5 + 45, 1);
        pair(kept, 5, 3, 0, 0, 15 + 45, 1);
        pair(kept, 0, 1, 0, 0, 0, 1);
        // Half of the customers want 6: a piece saves 8 half the time and costs the cost 4 else.
        OrderLevels above = Shops.of(1, 0, 0, 0, 0, 0, 1, 0, 0, 0, 8, 9);
        pair(above, 0, 1, 0, 0, 24, 1);
        OrderLevels alike = Shops.of(1, 0, 0, 0, 0, 0, 1, 0, 0, 0, 8, 8);
        pair(alike, 0, 1, 0, 0, 24, 1);
        OrderLevels below = Shops.of(1, 0, 0, 0, 0, 0, 1, 0, 0, 0, 8, 7);
        pair(below, 0, 1, 1, 6, 21, 1);
    }

    private static void meansChangeNothing() {
        says("The changes are the calls of weigh, cost, season, plan, order, follow, sell and play");
        OrderLevels asked = new OrderLevels();
        OrderLevels other = new OrderLevels();
        OrderLevels[] both = {asked, other};
        for (OrderLevels shop : both) {
            shop.weigh(3, 7);
            shop.plan(2, 3, 9);
            shop.season(4, 5);
            shop.follow();
            CHECKS.write(shop, "sell 7;");
        }
        asked.least(0, 6, 0);
        asked.best(0, 6);
        asked.planned(0, 6, 1);
        asked.regret(20, 6, 1);
        asked.levelValue(20, 6, 0);
        asked.shape(6, 6);
        asked.bestPlan(0, 3, 1);
        CHECKS.same("asking for means", asked, other);
    }
}
