/** Promises 12 to 18: least, best, planned, regret, levelValue, shape, bestPlan. */
public final class MeansTest {
    private static final int INVALID = OrderLevels.INVALID_ARGUMENT;
    private static final int NONE = OrderLevels.NOT_FOUND;
    private static final int[] FAR = {Integer.MIN_VALUE, -1, Integer.MAX_VALUE, 1000};

    private static final Checks CHECKS = new Checks();

    public static void main(String[] args) {
        byHand();
        noPeriod();
        shapesByHand();
        equalLevels();
        planByHand();
        regretFirst();
        pairsByHand();
        dearest();
        errors();
        for (int[] settings : SETTINGS) {
            compareAll(settings);
        }
        for (int[] settings : SETTINGS) {
            comparePairs(settings);
        }
        nothingChanges();
        CHECKS.end("means");
    }

    /** Seven weights, then the five costs. */
    private static final int[][] SETTINGS = {
        {2, 0, 3, 0, 0, 1, 0, 6, 1, 1, 9, 0},
        {1, 1, 1, 1, 1, 1, 1, 20, 2, 1, 29, 3},
        {6, 0, 0, 0, 0, 0, 6, 99, 0, 0, 29, 9},
        {0, 3, 0, 0, 9, 0, 0, 0, 9, 9, 11, 0},
        {0, 0, 0, 0, 0, 1, 0, 0, 0, 0, 0, 0},
        {5, 0, 0, 7, 0, 0, 0, 17, 1, 0, 12, 0},
        {0, 0, 0, 0, 0, 1, 0, 99, 0, 0, 29, 0},
        {1, 0, 0, 0, 0, 0, 0, 5, 1, 1, 4, 0},
    };

    private static void due(String call, long got, long want) {
        CHECKS.due(call, got, want);
    }

    private static SlowShop slowOf(int... settings) {
        SlowShop shop = new SlowShop();
        for (int turn = 0; turn < 2; turn++) {
            for (int demand = 6; demand >= 0; demand--) {
                shop.weigh(demand, settings[demand]);
            }
        }
        for (int what = 0; what < 5; what++) {
            shop.cost(what, settings[7 + what]);
        }
        return shop;
    }

    private static void byHand() {
        OrderLevels shop = Shops.of(SETTINGS[0]);
        // Sixths of the level function of one period, from level 0.
        int[] sixths = {99, 71, 43, 45, 47, 49, 61, 73};
        for (int level = 0; level < sixths.length; level++) {
            long divisor = sixths[level] % 2 == 0 ? 2 : 1;
            divisor *= sixths[level] % 3 == 0 ? 3 : 1;
            due("levelValue(" + level + ", 1, 0)", shop.levelValue(level, 1, 0),
                    sixths[level] / divisor);
            due("levelValue(" + level + ", 1, 1)", shop.levelValue(level, 1, 1), 6 / divisor);
        }
        due("best(0, 1)", shop.best(0, 1), 2);
        due("best(1, 1)", shop.best(1, 1), 1);
        due("best(2, 1)", shop.best(2, 1), 2);
        due("best(20, 1)", shop.best(20, 1), 20);
        due("least(0, 1, 0)", shop.least(0, 1, 0), 79);
        due("least(0, 1, 1)", shop.least(0, 1, 1), 6);
        due("least(1, 1, 0)", shop.least(1, 1, 0), 65);
        due("least(1, 1, 1)", shop.least(1, 1, 1), 6);
        due("least(3, 1, 0)", shop.least(3, 1, 0), 9);
        due("least(3, 1, 1)", shop.least(3, 1, 1), 2);
    }

    private static void noPeriod() {
        OrderLevels shop = new OrderLevels();
        due("least(20, 0, 0)", shop.least(20, 0, 0), 0);
        due("least(20, 0, 1)", shop.least(20, 0, 1), 1);
        shop.weigh(3, 5);
        shop.cost(4, 9);
        due("least(20, 0, 0)", shop.least(20, 0, 0), 180);
        due("least(20, 0, 1)", shop.least(20, 0, 1), 1);
        due("planned(7, 0, 0)", shop.planned(7, 0, 0), 63);
        due("planned(7, 0, 1)", shop.planned(7, 0, 1), 1);
        due("planned(0, 0, 1)", shop.planned(0, 0, 1), 1);
        due("regret(7, 0, 0)", shop.regret(7, 0, 0), 0);
        due("regret(7, 0, 1)", shop.regret(7, 0, 1), 1);
    }

    private static void shapesByHand() {
        OrderLevels shop = Shops.of(SETTINGS[0]);
        int[] want = {2, 0, 0, NONE, 0, NONE, 1};
        for (int what = 0; what < want.length; what++) {
            due("shape(1, " + what + ")", shop.shape(1, what), want[what]);
        }
        // No demand comes: nothing is ordered, and a piece costs 1 and 1 in each period.
        OrderLevels idle = new OrderLevels();
        int[] never = {0, NONE, 0, NONE, 0, NONE, 0};
        for (int what = 0; what < never.length; what++) {
            due("idle shape(6, " + what + ")", idle.shape(6, what), never[what]);
        }
        due("idle least(20, 6, 0)", idle.least(20, 6, 0), 120);
        due("idle levelValue(20, 6, 0)", idle.levelValue(20, 6, 0), 140);
        // Always 1 piece: an order of 3 from stock 0 alone, for both periods at once.
        OrderLevels one = Shops.of(0, 1, 0, 0, 0, 0, 0, 3, 0, 1, 29, 0);
        due("one shape(2, 0)", one.shape(2, 0), 2);
        due("one shape(2, 1)", one.shape(2, 1), 0);
        due("one levelValue(0, 2, 0)", one.levelValue(0, 2, 0), 29 + 3);
        due("one levelValue(1, 2, 0)", one.levelValue(1, 2, 0), 3);
        due("one levelValue(2, 2, 0)", one.levelValue(2, 2, 0), 1);
        due("one levelValue(3, 2, 0)", one.levelValue(3, 2, 0), 3);
        due("one levelValue(4, 2, 0)", one.levelValue(4, 2, 0), 5);
        due("one shape(2, 2)", one.shape(2, 2), 0);
        // What is left of some levels leads to a new order: the function bends down there.
        due("shape(4, 2)", shop.shape(4, 2), 5);
        due("shape(4, 3)", shop.shape(4, 3), firstGap(shop, 4));
    }

    /** The first gap of convexity by the answers of levelValue. */
    private static int firstGap(OrderLevels shop, int periods) {
        for (int level = 1; level <= 19; level++) {
            Fraction here = value(shop, level, periods);
            Fraction sum = value(shop, level - 1, periods).plus(value(shop, level + 1, periods));
            if (here.plus(here).compareTo(sum) > 0) {
                return level;
            }
        }
        return NONE;
    }

    private static Fraction value(OrderLevels shop, int level, int periods) {
        return Fraction.of(shop.levelValue(level, periods, 0), shop.levelValue(level, periods, 1));
    }

    private static void equalLevels() {
        // An order of 3 and a piece of 1 are as dear as a piece lost: of equal levels the least.
        OrderLevels shop = Shops.of(0, 1, 0, 0, 0, 0, 0, 3, 1, 0, 4, 0);
        due("best(0, 1)", shop.best(0, 1), 0);
        due("shape(1, 1)", shop.shape(1, 1), NONE);
        shop.cost(3, 5);
        due("best(0, 1) dearer", shop.best(0, 1), 1);
        // Four periods of 5 pieces each, and an order that is dear: the highest level.
        OrderLevels dear = Shops.of(0, 0, 0, 0, 0, 1, 0, 99, 0, 0, 29, 0);
        due("dear best(0, 4)", dear.best(0, 4), 20);
        due("dear shape(4, 0)", dear.shape(4, 0), 20);
        due("dear least(0, 4, 0)", dear.least(0, 4, 0), 99);
        // All levels from 1 on cost nothing more.
        OrderLevels free = Shops.of(0, 1, 0, 0, 0, 0, 0, 0, 0, 0, 4, 0);
        due("free best(0, 1)", free.best(0, 1), 1);
        due("free best(0, 6)", free.best(0, 6), 1);
        due("free shape(1, 0)", free.shape(1, 0), 1);
        due("free shape(6, 0)", free.shape(6, 0), 1);
    }

    private static void planByHand() {
        // Always 2 pieces.
        OrderLevels shop = Shops.of(0, 0, 1, 0, 0, 0, 0, 5, 1, 1, 4, 2);
        due("planned(0, 2, 0) without levels", shop.planned(0, 2, 0), 16);
        shop.plan(2, 1, 5);
        shop.plan(1, 4, 4);
        // 5 + 5, 3 left; 5 + 1, 2 left, and 2 * 2 behind.
        due("planned(0, 2, 0)", shop.planned(0, 2, 0), 10 + 3 + 6 + 2 + 4);
        due("planned(0, 2, 1)", shop.planned(0, 2, 1), 1);
        // A stock of 1 is not below 1: 1 lost; then 5 + 4, 2 left.
        due("planned(1, 2, 0)", shop.planned(1, 2, 0), 4 + 9 + 2 + 4);
        due("planned(5, 2, 0)", shop.planned(5, 2, 0), 3 + 6 + 2 + 4);
        due("planned(20, 2, 0)", shop.planned(20, 2, 0), 18 + 16 + 32);
        due("least(0, 2, 0)", shop.least(0, 2, 0), 5 + 4 + 2);
        due("regret(0, 2, 0)", shop.regret(0, 2, 0), 25 - 11);
        shop.plan(1, 0, 0);
        due("regret(0, 2, 0) by another plan", shop.regret(0, 2, 0), 10 + 3 + 1 + 2 - 11);
        shop.cost(4, 3);
        due("regret(0, 2, 0) by another cost", shop.regret(0, 2, 0), 10 + 3 + 1 + 3 - 11);
        shop.cost(4, 2);
        shop.plan(1, 4, 4);
        due("regret(20, 2, 0)", shop.regret(20, 2, 0), 0);
        due("regret(20, 2, 1)", shop.regret(20, 2, 1), 1);
    }

    /** The regret alone, without a call ahead that finds the best way or the plan's cost. */
    private static void regretFirst() {
        OrderLevels shop = Shops.of(0, 0, 1, 0, 0, 0, 0, 5, 1, 1, 4, 2);
        due("regret(0, 2, 0) at first", shop.regret(0, 2, 0), 16 - 11);
        due("regret(0, 2, 1) at first", shop.regret(0, 2, 1), 1);
        shop.cost(0, 9);
        due("regret(0, 2, 0) after cost", shop.regret(0, 2, 0), 16 - 15);
    }

    private static void pairsByHand() {
        OrderLevels shop = Shops.of(0, 0, 1, 0, 0, 0, 0, 5, 1, 1, 4, 2);
        // Once up to 4 is best for two periods: low 1, as a stock of 2 is left then.
        long[] want = {1, 4, 11, 1};
        for (int what = 0; what < 4; what++) {
            due("bestPlan(0, 2, " + what + ")", shop.bestPlan(0, 2, what), want[what]);
        }
        // From 20 no low level is above the stock: all plans are alike.
        due("bestPlan(20, 1, 0)", shop.bestPlan(20, 1, 0), 0);
        due("bestPlan(20, 1, 1)", shop.bestPlan(20, 1, 1), 0);
        due("bestPlan(20, 1, 2)", shop.bestPlan(20, 1, 2), 18 + 36);
        // From 1, losing a piece costs 4, ordering it 6.
        due("bestPlan(1, 1, 0)", shop.bestPlan(1, 1, 0), 0);
        due("bestPlan(1, 1, 1)", shop.bestPlan(1, 1, 1), 0);
        due("bestPlan(1, 1, 2)", shop.bestPlan(1, 1, 2), 4);
        OrderLevels halves = Shops.of(SETTINGS[0]);
        due("bestPlan(0, 1, 0)", halves.bestPlan(0, 1, 0), 1);
        due("bestPlan(0, 1, 1)", halves.bestPlan(0, 1, 1), 2);
        due("bestPlan(0, 1, 2)", halves.bestPlan(0, 1, 2), 79);
        due("bestPlan(0, 1, 3)", halves.bestPlan(0, 1, 3), 6);
    }

    /** The greatest numbers that come up are right: nothing runs over. */
    private static void dearest() {
        int[] settings = {1, 0, 0, 0, 0, 2, 9, 99, 9, 9, 29, 9};
        OrderLevels shop = Shops.of(settings);
        SlowShop slow = slowOf(settings);
        for (int periods = 1; periods <= 6; periods++) {
            shop.plan(periods, 20, 20);
            slow.plan(periods, 20, 20);
        }
        compareStock(shop, slow, 0, 6);
        compareStock(shop, slow, 20, 6);
        due("count(3)", shop.count(3), 12);
    }

    private static void errors() {
        OrderLevels shop = Shops.of(SETTINGS[0]);
        int[][] wrong = {{-1, 1, 0}, {21, 1, 0}, {0, -1, 0}, {0, 7, 0}, {0, 1, -1}, {0, 1, 2}};
        for (int[] three : wrong) {
            threeErrors(shop, three[0], three[1], three[2]);
        }
        for (int far : FAR) {
            threeErrors(shop, far, 1, 0);
            threeErrors(shop, 1, far, 0);
            threeErrors(shop, 1, 1, far);
            due("best(" + far + ", 1)", shop.best(far, 1), INVALID);
            due("best(1, " + far + ")", shop.best(1, far), INVALID);
            due("shape(" + far + ", 1)", shop.shape(far, 1), INVALID);
            due("shape(1, " + far + ")", shop.shape(1, far), INVALID);
            due("bestPlan(" + far + ", 1, 1)", shop.bestPlan(far, 1, 1), INVALID);
            due("bestPlan(1, " + far + ", 1)", shop.bestPlan(1, far, 1), INVALID);
            due("bestPlan(1, 1, " + far + ")", shop.bestPlan(1, 1, far), INVALID);
        }
        due("levelValue(1, 0, 0)", shop.levelValue(1, 0, 0), INVALID);
        due("best(21, 1)", shop.best(21, 1), INVALID);
        due("best(0, 0)", shop.best(0, 0), INVALID);
        due("best(0, 7)", shop.best(0, 7), INVALID);
        due("shape(0, 0)", shop.shape(0, 0), INVALID);
        due("shape(7, 0)", shop.shape(7, 0), INVALID);
        due("shape(1, 7)", shop.shape(1, 7), INVALID);
        due("bestPlan(21, 1, 0)", shop.bestPlan(21, 1, 0), INVALID);
        due("bestPlan(0, 0, 0)", shop.bestPlan(0, 0, 0), INVALID);
        due("bestPlan(0, 4, 0)", shop.bestPlan(0, 4, 0), INVALID);
        due("bestPlan(0, 1, 4)", shop.bestPlan(0, 1, 4), INVALID);
    }

    private static void threeErrors(OrderLevels shop, int first, int periods, int part) {
        String of = "(" + first + ", " + periods + ", " + part + ")";
        due("least" + of, shop.least(first, periods, part), INVALID);
        due("planned" + of, shop.planned(first, periods, part), INVALID);
        due("regret" + of, shop.regret(first, periods, part), INVALID);
        due("levelValue" + of, shop.levelValue(first, periods, part), INVALID);
    }

    private static void compareAll(int[] settings) {
        for (int periods = 0; periods <= 6; periods++) {
            // An object of its own for each number of periods, as it takes 512 calls at most.
            OrderLevels shop = Shops.of(settings);
            SlowShop slow = slowOf(settings);
            planBoth(shop, slow);
            for (int stock = 0; stock <= 20; stock += 1 + periods / 3) {
                compareStock(shop, slow, stock, periods);
            }
            for (int what = 0; what <= 6; what++) {
                due("shape(" + periods + ", " + what + ")", shop.shape(periods, what),
                        slow.shape(periods, what));
            }
        }
    }

    private static void planBoth(OrderLevels shop, SlowShop slow) {
        for (int periods = 1; periods <= 6; periods++) {
            int low = 7 - periods;
            int high = low + 2 * periods;
            due("plan(" + periods + ", ..)", shop.plan(periods, low, high),
                    slow.plan(periods, low, high));
        }
    }

    private static void compareStock(OrderLevels shop, SlowShop slow, int stock, int periods) {
        for (int part = 0; part <= 1; part++) {
            String of = "(" + stock + ", " + periods + ", " + part + ")";
            due("least" + of, shop.least(stock, periods, part), slow.least(stock, periods, part));
            due("planned" + of, shop.planned(stock, periods, part),
                    slow.planned(stock, periods, part));
            due("regret" + of, shop.regret(stock, periods, part),
                    slow.regret(stock, periods, part));
            due("levelValue" + of, shop.levelValue(stock, periods, part),
                    slow.levelValue(stock, periods, part));
        }
        due("best(" + stock + ", " + periods + ")", shop.best(stock, periods),
                slow.best(stock, periods));
    }

    private static void comparePairs(int[] settings) {
        OrderLevels shop = Shops.of(settings);
        SlowShop slow = slowOf(settings);
        for (int periods = 1; periods <= 3; periods++) {
            for (int stock = 0; stock <= 20; stock += 5) {
                for (int what = 0; what <= 3; what++) {
                    due("bestPlan(" + stock + ", " + periods + ", " + what + ")",
                            shop.bestPlan(stock, periods, what),
                            slow.bestPlan(stock, periods, what));
                }
            }
        }
    }

    /** Asking for means changes neither the plan nor the history. */
    private static void nothingChanges() {
        OrderLevels shop = new OrderLevels();
        shop.plan(2, 3, 4);
        shop.bestPlan(3, 3, 0);
        shop.planned(3, 6, 0);
        shop.shape(6, 2);
        due("setting(2, 2)", shop.setting(2, 2), 3);
        due("setting(3, 2)", shop.setting(3, 2), 4);
        due("setting(3, 1)", shop.setting(3, 1), 0);
        due("count(10)", shop.count(10), 1);
    }
}
