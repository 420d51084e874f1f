/** Promises 1 to 5: a new object, weigh, cost, plan, setting. */
public final class SettingsTest {
    private static final int INVALID = OrderLevels.INVALID_ARGUMENT;
    private static final int[] FAR = {Integer.MIN_VALUE, -2, Integer.MAX_VALUE, 1000};

    private static final Checks CHECKS = new Checks();

    public static void main(String[] args) {
        constants();
        newObject();
        weighs();
        weighErrors();
        costs();
        plans();
        settingErrors();
        CHECKS.end("settings");
    }

    private static void due(String call, long got, long want) {
        CHECKS.due(call, got, want);
    }

    private static void constants() {
        due("INVALID_ARGUMENT", OrderLevels.INVALID_ARGUMENT, -1000001);
        due("NOT_POSSIBLE", OrderLevels.NOT_POSSIBLE, -1000002);
        due("LIMIT_REACHED", OrderLevels.LIMIT_REACHED, -1000003);
        due("NOT_FOUND", OrderLevels.NOT_FOUND, -1000004);
    }

    private static void newObject() {
        OrderLevels shop = new OrderLevels();
        for (int demand = 0; demand <= 6; demand++) {
            due("new setting(0, " + demand + ")", shop.setting(0, demand), demand == 0 ? 1 : 0);
        }
        int[] costs = {5, 1, 1, 4, 0};
        for (int what = 0; what < costs.length; what++) {
            due("new setting(1, " + what + ")", shop.setting(1, what), costs[what]);
        }
        for (int periods = 1; periods <= 6; periods++) {
            due("new setting(2, " + periods + ")", shop.setting(2, periods), 0);
            due("new setting(3, " + periods + ")", shop.setting(3, periods), 0);
        }
        for (int what = 0; what <= 11; what++) {
            due("new count(" + what + ")", shop.count(what), what == 3 ? 1 : 0);
        }
        due("new saleAt(0, 0)", shop.saleAt(0, 0), OrderLevels.NOT_FOUND);
        due("new undo()", shop.undo(), OrderLevels.NOT_POSSIBLE);
        due("new sell(0)", shop.sell(0), OrderLevels.NOT_POSSIBLE);
        OrderLevels other = new OrderLevels();
        other.weigh(3, 4);
        due("another's setting(0, 3)", shop.setting(0, 3), 0);
    }

    private static void weighs() {
        OrderLevels shop = new OrderLevels();
        due("weigh(6, 9)", shop.weigh(6, 9), 10);
        due("weigh(0, 3)", shop.weigh(0, 3), 12);
        due("weigh(0, 3) again", shop.weigh(0, 3), 12);
        due("weigh(0, 0)", shop.weigh(0, 0), 9);
        due("weigh(6, 1)", shop.weigh(6, 1), 1);
        due("setting(0, 6)", shop.setting(0, 6), 1);
        due("setting(0, 0)", shop.setting(0, 0), 0);
        due("count(3)", shop.count(3), 1);
    }

    private static void weighErrors() {
        OrderLevels shop = new OrderLevels();
        due("weigh(0, 0)", shop.weigh(0, 0), OrderLevels.NOT_POSSIBLE);
        shop.weigh(1, 9);
        due("weigh(2, 3)", shop.weigh(2, 3), OrderLevels.LIMIT_REACHED);
        due("weigh(-1, 1)", shop.weigh(-1, 1), INVALID);
        due("weigh(7, 1)", shop.weigh(7, 1), INVALID);
        due("weigh(1, -1)", shop.weigh(1, -1), INVALID);
        due("weigh(1, 10)", shop.weigh(1, 10), INVALID);
        for (int far : FAR) {
            due("weigh(" + far + ", 1)", shop.weigh(far, 1), INVALID);
            due("weigh(1, " + far + ")", shop.weigh(1, far), INVALID);
        }
        due("count(3)", shop.count(3), 10);
        due("setting(0, 2)", shop.setting(0, 2), 0);
        due("count(10)", shop.count(10), 1);
    }

    private static void costs() {
        OrderLevels shop = new OrderLevels();
        int[] first = {5, 1, 1, 4, 0};
        int[] most = {99, 9, 9, 29, 9};
        for (int what = 0; what < 5; what++) {
            due("cost(" + what + ", most)", shop.cost(what, most[what]), first[what]);
            due("cost(" + what + ", most + 1)", shop.cost(what, most[what] + 1), INVALID);
            due("cost(" + what + ", -1)", shop.cost(what, -1), INVALID);
            due("setting(1, " + what + ")", shop.setting(1, what), most[what]);
            due("cost(" + what + ", 0)", shop.cost(what, 0), most[what]);
        }
        due("cost(-1, 0)", shop.cost(-1, 0), INVALID);
        due("cost(5, 0)", shop.cost(5, 0), INVALID);
        for (int far : FAR) {
            due("cost(" + far + ", 0)", shop.cost(far, 0), INVALID);
            due("cost(0, " + far + ")", shop.cost(0, far), INVALID);
        }
    }

    private static void plans() {
        OrderLevels shop = new OrderLevels();
        due("plan(1, 3, 8)", shop.plan(1, 3, 8), 0);
        due("plan(1, 20, 20)", shop.plan(1, 20, 20), 308);
        due("plan(1, 0, 20)", shop.plan(1, 0, 20), 2020);
        due("plan(1, 0, 0)", shop.plan(1, 0, 0), 20);
        due("plan(6, 4, 4)", shop.plan(6, 4, 4), 0);
        due("setting(2, 6)", shop.setting(2, 6), 4);
        due("setting(3, 6)", shop.setting(3, 6), 4);
        due("setting(2, 5)", shop.setting(2, 5), 0);
        due("plan(0, 1, 2)", shop.plan(0, 1, 2), INVALID);
        due("plan(7, 1, 2)", shop.plan(7, 1, 2), INVALID);
        due("plan(2, -1, 2)", shop.plan(2, -1, 2), INVALID);
        due("plan(2, 21, 21)", shop.plan(2, 21, 21), INVALID);
        due("plan(2, 3, 2)", shop.plan(2, 3, 2), INVALID);
        due("plan(2, 3, 21)", shop.plan(2, 3, 21), INVALID);
        for (int far : FAR) {
            due("plan(" + far + ", 1, 2)", shop.plan(far, 1, 2), INVALID);
            due("plan(2, " + far + ", 2)", shop.plan(2, far, 2), INVALID);
            due("plan(2, 1, " + far + ")", shop.plan(2, 1, far), INVALID);
        }
        due("setting(2, 2)", shop.setting(2, 2), 0);
        due("setting(3, 2)", shop.setting(3, 2), 0);
    }

    private static void settingErrors() {
        OrderLevels shop = new OrderLevels();
        int[][] wrong = {
            {-1, 1}, {4, 1}, {0, -1}, {0, 7}, {1, -1}, {1, 5}, {2, 0}, {2, 7}, {3, 0}, {3, 7},
        };
        for (int[] pair : wrong) {
            due("setting(" + pair[0] + ", " + pair[1] + ")", shop.setting(pair[0], pair[1]),
                    INVALID);
        }
        for (int far : FAR) {
            due("setting(" + far + ", 1)", shop.setting(far, 1), INVALID);
            for (int what = 0; what <= 3; what++) {
                due("setting(" + what + ", " + far + ")", shop.setting(what, far), INVALID);
            }
        }
    }
}
