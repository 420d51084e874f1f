/** Promises 6 to 11: season, order, follow, sell, saleAt, count. */
public final class SeasonTest {
    private static final int INVALID = OrderLevels.INVALID_ARGUMENT;
    private static final int IMPOSSIBLE = OrderLevels.NOT_POSSIBLE;
    private static final int[] FAR = {Integer.MIN_VALUE, -2, Integer.MAX_VALUE, 1000};

    private static final Checks CHECKS = new Checks();

    public static void main(String[] args) {
        seasons();
        orders();
        orderErrors();
        follows();
        sells();
        lastPeriod();
        latestSales();
        counts();
        countErrors();
        CHECKS.end("season");
    }

    private static void due(String call, long got, long want) {
        CHECKS.due(call, got, want);
    }

    private static void seasons() {
        OrderLevels shop = new OrderLevels();
        due("season(20, 6)", shop.season(20, 6), 0);
        due("sell(1)", shop.sell(1), 1);
        int money = shop.count(8);
        due("order(20)", shop.order(20), 6);
        due("season(0, 1)", shop.season(0, 1), 5);
        due("count(8) is not more by a new season", shop.count(8), money + 6);
        due("count(0)", shop.count(0), 0);
        due("count(1)", shop.count(1), 1);
        due("count(2)", shop.count(2), 0);
        due("season(-1, 1)", shop.season(-1, 1), INVALID);
        due("season(21, 1)", shop.season(21, 1), INVALID);
        due("season(1, 0)", shop.season(1, 0), INVALID);
        due("season(1, 7)", shop.season(1, 7), INVALID);
        for (int far : FAR) {
            due("season(" + far + ", 1)", shop.season(far, 1), INVALID);
            due("season(1, " + far + ")", shop.season(1, far), INVALID);
        }
        due("count(1) after errors", shop.count(1), 1);
    }

    private static void orders() {
        OrderLevels shop = new OrderLevels();
        shop.cost(1, 3);
        shop.season(4, 2);
        due("order(20)", shop.order(20), 5 + 16 * 3);
        due("count(0)", shop.count(0), 20);
        due("count(2)", shop.count(2), 1);
        due("count(4)", shop.count(4), 1);
        due("count(5)", shop.count(5), 16);
        due("count(8)", shop.count(8), 53);
        shop.sell(0);
        due("count(2) in the next period", shop.count(2), 0);
        due("order(20) up to the stock", shop.order(20), 0);
        due("count(4) of no order", shop.count(4), 1);
        due("count(2) up to the stock", shop.count(2), 1);
        due("order(20) twice", shop.order(20), IMPOSSIBLE);
    }

    private static void orderErrors() {
        OrderLevels shop = new OrderLevels();
        due("order(5) without a season", shop.order(5), IMPOSSIBLE);
        due("order(21) without a season", shop.order(21), INVALID);
        shop.season(5, 1);
        due("order(4) below the stock", shop.order(4), IMPOSSIBLE);
        due("order(-1)", shop.order(-1), INVALID);
        due("order(21)", shop.order(21), INVALID);
        for (int far : FAR) {
            due("order(" + far + ")", shop.order(far), INVALID);
        }
        due("count(2) after errors", shop.count(2), 0);
        shop.sell(0);
        due("order(6) behind the season", shop.order(6), IMPOSSIBLE);
        due("count(0)", shop.count(0), 5);
    }

    private static void follows() {
        OrderLevels shop = new OrderLevels();
        due("follow() without a season", shop.follow(), IMPOSSIBLE);
        shop.plan(3, 4, 9);
        shop.plan(2, 9, 12);
        shop.season(3, 3);
        due("follow() below the low level", shop.follow(), 9);
        due("count(8)", shop.count(8), 5 + 6);
        due("follow() twice", shop.follow(), IMPOSSIBLE);
        due("order(9) after it", shop.order(9), IMPOSSIBLE);
        shop.sell(0);
        due("follow() at the low level", shop.follow(), 9);
        due("count(2) without an order", shop.count(2), 1);
        due("count(4)", shop.count(4), 1);
        due("count(5)", shop.count(5), 6);
        due("order(10) after it", shop.order(10), IMPOSSIBLE);
        shop.sell(6);
        due("follow() by first levels", shop.follow(), 3);
        shop.sell(6);
        due("follow() behind the season", shop.follow(), IMPOSSIBLE);
    }

    private static void sells() {
        OrderLevels shop = new OrderLevels();
        due("sell(0) without a season", shop.sell(0), IMPOSSIBLE);
        due("sell(7) without a season", shop.sell(7), INVALID);
        shop.cost(2, 2);
        shop.cost(3, 7);
        shop.cost(4, 9);
        shop.season(5, 4);
        due("sell(3)", shop.sell(3), 3);
        due("count(8)", shop.count(8), 2 * 2);
        due("sell(6)", shop.sell(6), 2);
        due("count(8)", shop.count(8), 4 + 4 * 7);
        due("count(6)", shop.count(6), 5);
        due("count(7)", shop.count(7), 4);
        due("count(9)", shop.count(9), 2);
        due("sell(-1)", shop.sell(-1), INVALID);
        due("sell(7)", shop.sell(7), INVALID);
        for (int far : FAR) {
            due("sell(" + far + ")", shop.sell(far), INVALID);
        }
        due("count(1)", shop.count(1), 2);
    }

    private static void lastPeriod() {
        OrderLevels shop = new OrderLevels();
        shop.cost(2, 2);
        shop.cost(4, 9);
        shop.season(5, 1);
        shop.order(6);
        due("sell(2)", shop.sell(2), 2);
        due("count(8)", shop.count(8), 6 + 4 * 2 + 4 * 9);
        due("count(0) stays", shop.count(0), 4);
        due("count(1)", shop.count(1), 0);
        due("count(2)", shop.count(2), 0);
        due("sell(0)", shop.sell(0), IMPOSSIBLE);
        due("season(0, 2)", shop.season(0, 2), 0);
        due("count(8) over all seasons", shop.count(8), 50);
    }

    private static void latestSales() {
        OrderLevels shop = new OrderLevels();
        shop.season(3, 6);
        for (int demand = 0; demand < 6; demand++) {
            due("saleAt(" + demand + ", 0) not yet", shop.saleAt(demand, 0), OrderLevels.NOT_FOUND);
            shop.sell(demand);
        }
        due("saleAt(5, 0) the oldest", shop.saleAt(5, 0), 0);
        shop.season(2, 2);
        shop.order(8);
        shop.sell(6);
        int[][] want = {{6, 6, 8, 2}, {5, 0, 0, 1}, {4, 0, 0, 2}, {3, 0, 0, 3}, {2, 2, 2, 4},
            {1, 1, 3, 5}};
        for (int index = 0; index < 6; index++) {
            for (int what = 0; what < 4; what++) {
                due("saleAt(" + index + ", " + what + ")", shop.saleAt(index, what),
                        want[index][what]);
            }
            due("saleAt(" + index + ", 4)", shop.saleAt(index, 4), INVALID);
            due("saleAt(" + index + ", -1)", shop.saleAt(index, -1), INVALID);
        }
        due("saleAt(6, 0)", shop.saleAt(6, 0), OrderLevels.NOT_FOUND);
        due("saleAt(6, 4)", shop.saleAt(6, 4), INVALID);
        due("saleAt(-1, 0)", shop.saleAt(-1, 0), INVALID);
        due("saleAt(most, 0)", shop.saleAt(Integer.MAX_VALUE, 0), OrderLevels.NOT_FOUND);
        due("saleAt(most, most)", shop.saleAt(Integer.MAX_VALUE, Integer.MAX_VALUE), INVALID);
        due("saleAt(least, 0)", shop.saleAt(Integer.MIN_VALUE, 0), INVALID);
    }

    private static void counts() {
        OrderLevels shop = new OrderLevels();
        shop.weigh(4, 6);
        shop.season(1, 2);
        shop.order(7);
        shop.sell(4);
        shop.follow();
        shop.sell(6);
        shop.season(2, 3);
        CHECKS.write(shop, "sell 1;");
        int[] want = {2, 3, 0, 7, 1, 6, 7, 3, 11 + 3 + 12, 2, 4, 7};
        for (int what = 0; what < want.length; what++) {
            due("count(" + what + ")", shop.count(what), want[what]);
        }
    }

    private static void countErrors() {
        OrderLevels shop = new OrderLevels();
        due("count(-1)", shop.count(-1), INVALID);
        due("count(12)", shop.count(12), INVALID);
        for (int far : FAR) {
            due("count(" + far + ")", shop.count(far), INVALID);
        }
    }
}
