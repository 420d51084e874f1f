/** The edges that promises 1 to 11 name, sentence by sentence. */
public final class CallsEdgesTest {
    private static final int INVALID = OrderLevels.INVALID_ARGUMENT;
    private static final int IMPOSSIBLE = OrderLevels.NOT_POSSIBLE;
    private static final int LIMIT = OrderLevels.LIMIT_REACHED;
    private static final int NONE = OrderLevels.NOT_FOUND;
    private static final int[] MOST_COSTS = {99, 9, 9, 29, 9};

    private static final Checks CHECKS = new Checks();

    public static void main(String[] args) {
        withoutSeason();
        weighRanges();
        weighSum();
        weighSumOfZero();
        weighSumAboveTwelve();
        costWhat();
        costValues();
        costWas();
        planRanges();
        planHigh();
        planWas();
        settingWhat();
        settingIndex();
        seasonRanges();
        seasonInPlace();
        seasonLeft();
        orderRange();
        orderPrice();
        orderWithoutPeriod();
        orderBelowStock();
        orderTwice();
        orderTwiceUpToTheStock();
        followStock();
        followWithoutOrder();
        followLevelsOfThePeriod();
        followWithoutPeriod();
        followTwice();
        sellRange();
        sellEndsPeriod();
        sellSold();
        sellWithoutPeriod();
        latestSix();
        saleNumbers();
        saleRanges();
        saleNotKept();
        saleBackAfterUndo();
        countRange();
        countStockAndPeriods();
        countOrdered();
        countSumOfWeights();
        countOrders();
        countPieces();
        countMoney();
        countSales();
        countStates();
        countText();
        CHECKS.end("edges of promises 1 to 11");
    }

    private static void due(String call, long got, long want) {
        CHECKS.due(call, got, want);
    }

    private static void says(String sentence) {
        CHECKS.says(sentence);
    }

    private static OrderLevels fresh() {
        return new OrderLevels();
    }

    private static OrderLevels inSeason(int stock, int periods) {
        OrderLevels shop = new OrderLevels();
        shop.season(stock, periods);
        return shop;
    }

    private static void withoutSeason() {
        says("Creates a shop without a season.");
        due("count(1)", fresh().count(1), 0);
        due("count(0)", fresh().count(0), 0);
        due("order(0)", fresh().order(0), IMPOSSIBLE);
        due("follow()", fresh().follow(), IMPOSSIBLE);
        due("sell(0)", fresh().sell(0), IMPOSSIBLE);
        due("season(0, 1)", fresh().season(0, 1), 0);
        due("undo()", fresh().undo(), IMPOSSIBLE);
    }

    private static void weighRanges() {
        says("`demand`: 0 to 6; `weight`: 0 to 9");
        CHECKS.range("the demand of weigh", 0, 6, demand -> fresh().weigh(demand, 1));
        CHECKS.range("the weight of weigh", 0, 9, weight -> fresh().weigh(6, weight));
    }

    private static void weighSum() {
        says("Returns the sum of all weights then");
        OrderLevels shop = fresh();
        due("weigh(0, 1), as it was", shop.weigh(0, 1), 1);
        due("weigh(5, 0), as it was", shop.weigh(5, 0), 1);
        due("weigh(0, 9)", shop.weigh(0, 9), 9);
        due("weigh(6, 3)", shop.weigh(6, 3), 12);
        due("weigh(6, 3) again", shop.weigh(6, 3), 12);
        due("weigh(0, 0)", shop.weigh(0, 0), 3);
    }

    private static void weighSumOfZero() {
        says("NOT_POSSIBLE if the sum would be 0");
        OrderLevels shop = fresh();
        due("weigh(0, 0)", shop.weigh(0, 0), IMPOSSIBLE);
        due("setting(0, 0)", shop.setting(0, 0), 1);
        due("weigh(6, 1)", shop.weigh(6, 1), 2);
        due("weigh(0, 0), which leaves 1", shop.weigh(0, 0), 1);
        due("weigh(0, 0) again", shop.weigh(0, 0), 1);
        due("weigh(6, 0)", shop.weigh(6, 0), IMPOSSIBLE);
        due("weigh(3, 9)", shop.weigh(3, 9), 10);
        due("weigh(6, 0), which leaves 9", shop.weigh(6, 0), 9);
        due("weigh(3, 0)", shop.weigh(3, 0), IMPOSSIBLE);
        due("count(3)", shop.count(3), 9);
    }

    private static void weighSumAboveTwelve() {
        says("LIMIT_REACHED if it would be above 12");
        OrderLevels shop = fresh();
        due("weigh(1, 9)", shop.weigh(1, 9), 10);
        due("weigh(2, 9) to 19", shop.weigh(2, 9), LIMIT);
        due("weigh(2, 3) to 13", shop.weigh(2, 3), LIMIT);
        due("weigh(0, 4) to 13", shop.weigh(0, 4), LIMIT);
        due("weigh(2, 2) to 12", shop.weigh(2, 2), 12);
        due("weigh(6, 1) to 13", shop.weigh(6, 1), LIMIT);
        due("weigh(6, 0)", shop.weigh(6, 0), 12);
        due("weigh(1, 5)", shop.weigh(1, 5), 8);
        due("weigh(0, 5)", shop.weigh(0, 5), 12);
        due("weigh(0, 6)", shop.weigh(0, 6), LIMIT);
        due("setting(0, 0)", shop.setting(0, 0), 5);
    }

    private static void costWhat() {
        says("`what`: 0 to 4");
        CHECKS.range("the what of cost", 0, 4, what -> fresh().cost(what, 0));
    }

    private static void costValues() {
        says("`value`: a value in its range");
        for (int what = 0; what <= 4; what++) {
            int which = what;
            CHECKS.range("the value of cost " + what, 0, MOST_COSTS[what],
                    value -> fresh().cost(which, value));
        }
    }

    private static void costWas() {
        says("Returns what it was");
        int[] first = {5, 1, 1, 4, 0};
        for (int what = 0; what <= 4; what++) {
            OrderLevels shop = fresh();
            due("cost(" + what + ", most)", shop.cost(what, MOST_COSTS[what]), first[what]);
            due("cost(" + what + ", most) again", shop.cost(what, MOST_COSTS[what]), MOST_COSTS[what]);
            due("cost(" + what + ", 100)", shop.cost(what, 100), INVALID);
            due("cost(" + what + ", 0)", shop.cost(what, 0), MOST_COSTS[what]);
            due("cost(" + what + ", 0) again", shop.cost(what, 0), 0);
        }
    }

    private static void planRanges() {
        says("`periods`: 1 to 6; `low`: 0 to 20");
        CHECKS.range("the periods of plan", 1, 6, periods -> fresh().plan(periods, 0, 20));
        CHECKS.range("the low level of plan", 0, 20, low -> fresh().plan(6, low, 20));
    }

    private static void planHigh() {
        says("`high`: low to 20");
        for (int low = 0; low <= 20; low++) {
            int least = low;
            CHECKS.range("the high level of plan at " + low, low, 20,
                    high -> fresh().plan(1, least, high));
        }
    }

    private static void planWas() {
        says("Returns 100 times the low one plus the high one as they were");
        OrderLevels shop = fresh();
        for (int periods = 1; periods <= 6; periods++) {
            due("plan at first", shop.plan(periods, 20, 20), 0);
            due("plan of 20 and 20 before", shop.plan(periods, 0, 20), 2020);
            due("plan of 0 and 20 before", shop.plan(periods, 1, 1), 20);
            due("plan of 1 and 1 before", shop.plan(periods, 5, 4), INVALID);
            due("plan after an error", shop.plan(periods, periods, 10 + periods), 101);
        }
        for (int periods = 1; periods <= 6; periods++) {
            due("plan of its own levels", shop.plan(periods, 0, 0), 101 * periods + 10);
        }
    }

    private static void settingWhat() {
        says("0: the weight of a demand; 1: a cost; 2: the low level for a number of periods left; 3:"
                + " the high one");
        CHECKS.range("the what of setting", 0, 3, what -> fresh().setting(what, 1));
        OrderLevels shop = fresh();
        shop.weigh(1, 3);
        shop.cost(1, 8);
        shop.plan(1, 9, 17);
        due("setting(0, 1)", shop.setting(0, 1), 3);
        due("setting(1, 1)", shop.setting(1, 1), 8);
        due("setting(2, 1)", shop.setting(2, 1), 9);
        due("setting(3, 1)", shop.setting(3, 1), 17);
    }

    private static void settingIndex() {
        says("`index`: the demand, 0 to 6; the cost, 0 to 4; the periods, 1 to 6");
        CHECKS.range("the demand of setting", 0, 6, index -> fresh().setting(0, index));
        CHECKS.range("the cost of setting", 0, 4, index -> fresh().setting(1, index));
        CHECKS.range("the periods of setting 2", 1, 6, index -> fresh().setting(2, index));
        CHECKS.range("the periods of setting 3", 1, 6, index -> fresh().setting(3, index));
        OrderLevels shop = fresh();
        shop.weigh(6, 2);
        shop.cost(4, 7);
        shop.plan(6, 3, 4);
        due("setting(0, 6)", shop.setting(0, 6), 2);
        due("setting(1, 4)", shop.setting(1, 4), 7);
        due("setting(2, 6)", shop.setting(2, 6), 3);
        due("setting(3, 6)", shop.setting(3, 6), 4);
    }

    private static void seasonRanges() {
        says("`stock`: 0 to 20; `periods`: 1 to 6");
        CHECKS.range("the stock of season", 0, 20, stock -> fresh().season(stock, 1));
        CHECKS.range("the periods of season", 1, 6, periods -> fresh().season(0, periods));
    }

    private static void seasonInPlace() {
        says("Begins a season, in place of one that there is (which costs nothing more).");
        OrderLevels shop = fresh();
        shop.cost(4, 9);
        shop.season(10, 1);
        shop.order(20);
        int money = shop.count(8);
        due("season(7, 3)", shop.season(7, 3), 1);
        due("count(8), nothing for 20 left", shop.count(8), money);
        due("count(0)", shop.count(0), 7);
        due("count(1)", shop.count(1), 3);
        due("count(2)", shop.count(2), 0);
        due("count(9), no sale", shop.count(9), 0);
        due("order(8) in the new season", shop.order(8), 6);
        due("saleAt(0, 0)", shop.saleAt(0, 0), NONE);
    }

    private static void seasonLeft() {
        says("Returns how many periods were left");
        OrderLevels shop = fresh();
        due("season at first", shop.season(1, 6), 0);
        due("season after 6", shop.season(2, 1), 6);
        shop.sell(0);
        due("season behind the last", shop.season(3, 4), 0);
        shop.sell(0);
        due("season after 3 of 4", shop.season(20, 7), INVALID);
        due("season after an error", shop.season(20, 6), 3);
    }

    private static void orderRange() {
        says("`level`: 0 to 20");
        CHECKS.range("the level of order", 0, 20, level -> inSeason(0, 1).order(level));
        CHECKS.range("the level of order with 20", 0, 20, level -> inSeason(20, 1).order(level));
    }

    private static void orderPrice() {
        says("Returns what the order costs (0 if the level is the stock)");
        for (int stock = 0; stock <= 20; stock += 10) {
            for (int level = stock; level <= 20; level++) {
                OrderLevels shop = inSeason(stock, 1);
                shop.cost(0, 99);
                shop.cost(1, 9);
                int price = level == stock ? 0 : 99 + 9 * (level - stock);
                due("order(" + level + ") from " + stock, shop.order(level), price);
                due("count(0)", shop.count(0), level);
                due("count(8)", shop.count(8), price);
            }
        }
        OrderLevels free = inSeason(0, 1);
        free.cost(0, 0);
        free.cost(1, 0);
        due("order(20) for nothing", free.order(20), 0);
        due("count(4), an order all the same", free.count(4), 1);
    }

    private static void orderWithoutPeriod() {
        says("NOT_POSSIBLE if no period is left");
        due("order(20) at first", fresh().order(20), IMPOSSIBLE);
        OrderLevels shop = inSeason(3, 1);
        shop.sell(0);
        due("order(3) behind the last", shop.order(3), IMPOSSIBLE);
        due("order(4) behind the last", shop.order(4), IMPOSSIBLE);
        due("order(2) behind the last", shop.order(2), IMPOSSIBLE);
        due("count(2)", shop.count(2), 0);
    }

    private static void orderBelowStock() {
        says("level is less than the stock");
        for (int level = 0; level < 20; level++) {
            due("order(" + level + ") with 20", inSeason(20, 6).order(level), IMPOSSIBLE);
            due("order(" + level + ") with one more", inSeason(level + 1, 1).order(level), IMPOSSIBLE);
            due("order(" + level + ") with as many", inSeason(level, 1).order(level), 0);
        }
        OrderLevels shop = inSeason(5, 1);
        shop.order(4);
        due("count(2) after an error", shop.count(2), 0);
        due("order(6) after an error", shop.order(6), 6);
    }

    private static void orderTwice() {
        says("or it was ordered in this period");
        OrderLevels shop = inSeason(0, 2);
        due("order(5)", shop.order(5), 10);
        due("order(5) again", shop.order(5), IMPOSSIBLE);
        due("order(20) again", shop.order(20), IMPOSSIBLE);
        due("order(21) again", shop.order(21), INVALID);
        shop.sell(0);
        due("order(20) in the last period", shop.order(20), 20);
        due("order(20) again", shop.order(20), IMPOSSIBLE);
    }

    private static void orderTwiceUpToTheStock() {
        says("(also up to the stock itself)");
        OrderLevels shop = inSeason(4, 1);
        due("order(4)", shop.order(4), 0);
        due("count(2)", shop.count(2), 1);
        due("order(5) after it", shop.order(5), IMPOSSIBLE);
        due("order(4) after it", shop.order(4), IMPOSSIBLE);
        OrderLevels empty = inSeason(0, 1);
        due("order(0)", empty.order(0), 0);
        due("order(1) after it", empty.order(1), IMPOSSIBLE);
    }

    private static void followStock() {
        says("Returns the stock then");
        for (int stock = 0; stock <= 20; stock++) {
            OrderLevels shop = inSeason(stock, 1);
            shop.plan(1, 10, 15);
            due("follow() from " + stock, shop.follow(), stock < 10 ? 15 : stock);
            due("count(0) from " + stock, shop.count(0), stock < 10 ? 15 : stock);
            due("count(5) from " + stock, shop.count(5), stock < 10 ? 15 - stock : 0);
            due("count(8) from " + stock, shop.count(8), stock < 10 ? 20 - stock : 0);
        }
    }

    private static void followWithoutOrder() {
        says("or does not order (which is as if it was ordered up to the stock itself)");
        OrderLevels shop = inSeason(0, 2);
        due("follow() by the first levels", shop.follow(), 0);
        due("count(2)", shop.count(2), 1);
        due("count(4)", shop.count(4), 0);
        due("count(5)", shop.count(5), 0);
        due("count(8)", shop.count(8), 0);
        due("count(10), a change", shop.count(10), 2);
        due("order(1) after it", shop.order(1), IMPOSSIBLE);
        due("sell(0)", shop.sell(0), 0);
        due("count(2) in the next period", shop.count(2), 0);
    }

    private static void followLevelsOfThePeriod() {
        says("Orders as the plan tells");
        OrderLevels shop = fresh();
        for (int periods = 1; periods <= 6; periods++) {
            shop.plan(periods, 20, 20);
            shop.plan(periods, 7 + periods, 7 + periods);
        }
        shop.season(0, 6);
        for (int left = 6; left >= 1; left--) {
            due("follow() with " + left + " left", shop.follow(), 7 + left);
            due("sell(6)", shop.sell(6), 6);
        }
        due("count(4)", shop.count(4), 6);
    }

    private static void followWithoutPeriod() {
        says("NOT_POSSIBLE if no period is left");
        OrderLevels shop = fresh();
        shop.plan(1, 9, 9);
        due("follow() at first", shop.follow(), IMPOSSIBLE);
        shop.season(0, 1);
        shop.sell(0);
        due("follow() behind the last", shop.follow(), IMPOSSIBLE);
        due("count(0)", shop.count(0), 0);
    }

    private static void followTwice() {
        says("or it was ordered in this period");
        OrderLevels shop = inSeason(0, 4);
        shop.plan(4, 3, 3);
        shop.plan(3, 20, 20);
        shop.plan(2, 20, 20);
        due("follow()", shop.follow(), 3);
        due("follow() after follow", shop.follow(), IMPOSSIBLE);
        shop.sell(0);
        shop.order(4);
        due("follow() after order", shop.follow(), IMPOSSIBLE);
        shop.sell(0);
        shop.order(4);
        due("follow() after order up to the stock", shop.follow(), IMPOSSIBLE);
        shop.sell(0);
        due("follow() without an order", shop.follow(), 4);
        due("follow() after that", shop.follow(), IMPOSSIBLE);
    }

    private static void sellRange() {
        says("`demand`: 0 to 6");
        CHECKS.range("the demand of sell", 0, 6, demand -> inSeason(20, 6).sell(demand));
        CHECKS.range("the demand of sell from 0", 0, 6, demand -> inSeason(0, 1).sell(demand));
    }

    private static void sellEndsPeriod() {
        says("The demand of the period comes, which ends the period.");
        OrderLevels shop = inSeason(2, 2);
        shop.order(2);
        due("sell(0)", shop.sell(0), 0);
        due("count(1)", shop.count(1), 1);
        due("count(2)", shop.count(2), 0);
        due("sell(0) without an order", shop.sell(0), 0);
        due("count(1) behind the last", shop.count(1), 0);
        due("sell(7)", shop.sell(7), INVALID);
    }

    private static void sellSold() {
        says("Returns how many pieces are sold");
        for (int stock = 0; stock <= 20; stock++) {
            for (int demand = 0; demand <= 6; demand++) {
                due("sell(" + demand + ") from " + stock, inSeason(stock, 1).sell(demand),
                        stock < demand ? stock : demand);
            }
        }
    }

    private static void sellWithoutPeriod() {
        says("NOT_POSSIBLE if no period is left");
        due("sell(0) at first", fresh().sell(0), IMPOSSIBLE);
        OrderLevels shop = inSeason(20, 6);
        for (int period = 0; period < 6; period++) {
            due("sell(1)", shop.sell(1), 1);
        }
        due("sell(1) of the seventh", shop.sell(1), IMPOSSIBLE);
        due("count(0)", shop.count(0), 14);
        due("count(9)", shop.count(9), 6);
    }

    /** A shop with so many sales, the demands of which are 0, 1, 2 and so on up to 6. */
    private static OrderLevels withSales(int sales) {
        OrderLevels shop = fresh();
        for (int sale = 0; sale < sales; sale++) {
            shop.season(20 - sale, 1 + sale % 6);
            shop.sell(sale % 7);
        }
        return shop;
    }

    private static void latestSix() {
        says("0 for the latest one, and so on; the latest 6 are kept");
        for (int sales = 0; sales <= 14; sales++) {
            OrderLevels shop = withSales(sales);
            for (int index = 0; index <= 7; index++) {
                boolean kept = index < 6 && index < sales;
                String of = "saleAt(" + index + ", 0) of " + sales;
                due(of, shop.saleAt(index, 0), kept ? (sales - 1 - index) % 7 : NONE);
                due(of + ", stock", shop.saleAt(index, 2), kept ? 21 - sales + index : NONE);
                due(of + ", periods", shop.saleAt(index, 3),
                        kept ? 1 + (sales - 1 - index) % 6 : NONE);
            }
        }
    }

    private static void saleNumbers() {
        says("0: the demand; 1: the pieces sold; 2: the stock ahead of it; 3: the periods left ahead"
                + " of it");
        OrderLevels shop = inSeason(0, 6);
        shop.order(20);
        shop.sell(6);
        shop.season(3, 1);
        shop.sell(5);
        shop.season(0, 2);
        shop.sell(0);
        int[][] want = {{0, 0, 0, 2}, {5, 3, 3, 1}, {6, 6, 20, 6}};
        for (int index = 0; index < 3; index++) {
            for (int what = 0; what <= 3; what++) {
                due("saleAt(" + index + ", " + what + ")", shop.saleAt(index, what),
                        want[index][what]);
            }
        }
    }

    private static void saleRanges() {
        says("INVALID_ARGUMENT if index is negative or what is out of range");
        CHECKS.range("the what of saleAt", 0, 3, what -> withSales(1).saleAt(0, what));
        CHECKS.range("the what of saleAt without a sale", 0, 3, what -> fresh().saleAt(0, what));
        int[] negative = {-1, -2, -6, Integer.MIN_VALUE};
        for (int index : negative) {
            due("saleAt(" + index + ", 0)", withSales(9).saleAt(index, 0), INVALID);
            due("saleAt(" + index + ", 0) at first", fresh().saleAt(index, 0), INVALID);
        }
    }

    private static void saleNotKept() {
        says("NOT_FOUND if not so many are kept");
        int[] beyond = {6, 7, 24, 64, 1 << 30, Integer.MAX_VALUE};
        for (int index : beyond) {
            for (int what = 0; what <= 3; what++) {
                due("saleAt(" + index + ", " + what + ")", withSales(9).saleAt(index, what), NONE);
            }
        }
        due("saleAt(0, 0) at first", fresh().saleAt(0, 0), NONE);
        due("saleAt(1, 3) of one", withSales(1).saleAt(1, 3), NONE);
        due("saleAt(5, 0) of five", withSales(5).saleAt(5, 0), NONE);
        due("saleAt(5, 0) of six", withSales(6).saleAt(5, 0), 0);
        due("saleAt(0, 0) in a season without a sale", inSeason(20, 6).saleAt(0, 0), NONE);
    }

    private static void saleBackAfterUndo() {
        says("the latest 6 are kept");
        OrderLevels shop = withSales(7);
        due("saleAt(5, 0) of seven", shop.saleAt(5, 0), 1);
        shop.undo();
        due("saleAt(5, 0) of six again", shop.saleAt(5, 0), 0);
        due("saleAt(0, 0) of six again", shop.saleAt(0, 0), 5);
        due("count(9)", shop.count(9), 6);
    }

    private static void countRange() {
        says("INVALID_ARGUMENT if what is out of range");
        CHECKS.range("the what of count", 0, 11, what -> fresh().count(what));
        CHECKS.range("the what of count in a season", 0, 11, what -> withSales(8).count(what));
    }

    private static void countStockAndPeriods() {
        says("0: the stock; 1: the periods left");
        for (int stock = 0; stock <= 20; stock += 20) {
            for (int periods = 1; periods <= 6; periods++) {
                due("count(0)", inSeason(stock, periods).count(0), stock);
                due("count(1)", inSeason(stock, periods).count(1), periods);
            }
        }
    }

    private static void countOrdered() {
        says("2: 1 if it was ordered in this period, otherwise 0");
        OrderLevels shop = inSeason(3, 2);
        due("count(2) of a new season", shop.count(2), 0);
        shop.order(20);
        due("count(2) after order", shop.count(2), 1);
        shop.sell(1);
        due("count(2) after sell", shop.count(2), 0);
        shop.follow();
        due("count(2) after follow", shop.count(2), 1);
        shop.season(1, 1);
        due("count(2) of another season", shop.count(2), 0);
        shop.order(1);
        due("count(2) up to the stock", shop.count(2), 1);
        shop.sell(1);
        due("count(2) behind the last", shop.count(2), 0);
    }

    private static void countSumOfWeights() {
        says("3: the sum of all weights");
        OrderLevels shop = fresh();
        due("count(3) at first", shop.count(3), 1);
        shop.weigh(6, 9);
        shop.weigh(3, 2);
        due("count(3) of 12", shop.count(3), 12);
        shop.weigh(3, 3);
        due("count(3) after an error", shop.count(3), 12);
    }

    private static void countOrders() {
        says("4: orders so far (that were more than the stock)");
        OrderLevels shop = inSeason(0, 6);
        shop.order(0);
        shop.sell(0);
        due("count(4) up to the stock", shop.count(4), 0);
        shop.order(1);
        shop.sell(0);
        due("count(4) of one more", shop.count(4), 1);
        shop.follow();
        due("count(4) of follow without an order", shop.count(4), 1);
        shop.sell(0);
        shop.plan(3, 20, 20);
        shop.follow();
        due("count(4) of follow", shop.count(4), 2);
        shop.order(20);
        due("count(4) after an error", shop.count(4), 2);
        shop.season(0, 1);
        due("count(4) over the seasons", shop.count(4), 2);
    }

    private static void countPieces() {
        says("5: pieces ordered so far; 6: pieces sold so far; 7: pieces lost so far");
        OrderLevels shop = inSeason(0, 2);
        shop.order(5);
        shop.sell(6);
        due("count(5)", shop.count(5), 5);
        due("count(6)", shop.count(6), 5);
        due("count(7)", shop.count(7), 1);
        shop.order(20);
        shop.sell(6);
        shop.season(1, 1);
        shop.order(20);
        shop.sell(0);
        due("count(5) of two seasons", shop.count(5), 5 + 20 + 19);
        due("count(6) of two seasons", shop.count(6), 11);
        due("count(7) of two seasons", shop.count(7), 1);
    }

    private static void countMoney() {
        says("8: money spent so far");
        OrderLevels shop = fresh();
        int[] most = MOST_COSTS;
        for (int what = 0; what <= 4; what++) {
            shop.cost(what, most[what]);
        }
        shop.season(0, 2);
        shop.sell(6);
        due("count(8) of 6 lost", shop.count(8), 6 * 29);
        shop.order(20);
        due("count(8) of an order of 20", shop.count(8), 6 * 29 + 99 + 180);
        shop.sell(0);
        due("count(8) of 20 left", shop.count(8), 6 * 29 + 99 + 180 + 180 + 180);
    }

    private static void countSales() {
        says("9: sales so far");
        for (int sales = 0; sales <= 15; sales++) {
            due("count(9)", withSales(sales).count(9), sales);
        }
        OrderLevels shop = withSales(1);
        shop.sell(0);
        due("count(9) after an error", shop.count(9), 1);
    }

    private static void countStates() {
        says("10: states in the history");
        OrderLevels shop = fresh();
        for (int states = 1; states <= 6; states++) {
            shop.season(states, 1);
            due("count(10) of " + states, shop.count(10), states < 4 ? states : 4);
        }
    }

    private static void countText() {
        says("11: the length of the text");
        OrderLevels shop = fresh();
        for (int length = 1; length <= 82; length++) {
            shop.type(length < 80 ? 32 : 126);
            due("count(11) of " + length, shop.count(11), length < 80 ? length : 80);
        }
        shop.clearText();
        due("count(11) of none", shop.count(11), 0);
    }
}
