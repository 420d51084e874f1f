import java.util.function.Supplier;
import java.util.function.ToLongFunction;

/** The edges that "Changes and errors" and promise 19 name, sentence by sentence. */
public final class ChangesEdgesTest {
    private static final int INVALID = OrderLevels.INVALID_ARGUMENT;
    private static final int IMPOSSIBLE = OrderLevels.NOT_POSSIBLE;
    private static final int LIMIT = OrderLevels.LIMIT_REACHED;
    private static final int NONE = OrderLevels.NOT_FOUND;

    private static final Checks CHECKS = new Checks();

    public static void main(String[] args) {
        constants();
        changesAreRecorded();
        changesToTheSame();
        otherCallsAreNone();
        errorsAreNone();
        mostFourStates();
        fourStatesRestored();
        fifthDropsTheOldest();
        ringTurns();
        playDropsTheOldest();
        everythingBeforeIt();
        changesInARow();
        refusedInARow();
        allButTheText();
        invalidAheadOfImpossible();
        invalidAheadOfLimit();
        invalidAheadOfNotFound();
        errorsChangeNothing();
        latestState();
        latestIsRemoved();
        undoLeft();
        undoOfNone();
        undoIsNoChange();
        objectsApart();
        CHECKS.end("edges of changes");
    }

    private static void due(String call, long got, long want) {
        CHECKS.due(call, got, want);
    }

    private static void says(String sentence) {
        CHECKS.says(sentence);
    }

    private static OrderLevels fresh() {
        return new OrderLevels();
    }

    private static void constants() {
        says("The constants");
        due("INVALID_ARGUMENT", OrderLevels.INVALID_ARGUMENT, -1000001);
        due("NOT_POSSIBLE", OrderLevels.NOT_POSSIBLE, -1000002);
        due("LIMIT_REACHED", OrderLevels.LIMIT_REACHED, -1000003);
        due("NOT_FOUND", OrderLevels.NOT_FOUND, -1000004);
    }

    private static void recorded(String call, OrderLevels shop, ToLongFunction<OrderLevels> change,
            int states) {
        int before = shop.count(10);
        change.applyAsLong(shop);
        due("states more by " + call, shop.count(10) - before, states);
    }

    private static OrderLevels inSeason() {
        OrderLevels shop = new OrderLevels();
        shop.season(4, 3);
        return shop;
    }

    private static void changesAreRecorded() {
        says("The changes are the calls of weigh, cost, season, plan, order, follow, sell and play"
                + " that return no error.");
        recorded("weigh", inSeason(), shop -> shop.weigh(1, 1), 1);
        recorded("cost", inSeason(), shop -> shop.cost(1, 2), 1);
        recorded("season", inSeason(), shop -> shop.season(1, 1), 1);
        recorded("plan", inSeason(), shop -> shop.plan(1, 1, 1), 1);
        recorded("order", inSeason(), shop -> shop.order(9), 1);
        recorded("follow", inSeason(), shop -> shop.follow(), 1);
        recorded("sell", inSeason(), shop -> shop.sell(1), 1);
        recorded("play", inSeason(), shop -> shop.play(), 1);
    }

    private static void changesToTheSame() {
        says("each change records everything before it");
        recorded("weigh of the same", inSeason(), shop -> shop.weigh(0, 1), 1);
        recorded("cost of the same", inSeason(), shop -> shop.cost(0, 5), 1);
        recorded("season of the same", inSeason(), shop -> shop.season(4, 3), 1);
        recorded("plan of the same", inSeason(), shop -> shop.plan(1, 0, 0), 1);
        recorded("order up to the stock", inSeason(), shop -> shop.order(4), 1);
        recorded("sell of none", inSeason(), shop -> shop.sell(0), 1);
        // They answer 0, which is no error.
        due("cost(4, 0)", fresh().cost(4, 0), 0);
        recorded("cost that was 0", inSeason(), shop -> shop.cost(4, 9), 1);
        recorded("season without one before", fresh(), shop -> shop.season(0, 1), 1);
    }

    private static void otherCallsAreNone() {
        says("The changes are the calls of weigh, cost, season, plan, order, follow, sell and play");
        OrderLevels shop = inSeason();
        recorded("setting", shop, x -> x.setting(0, 0), 0);
        recorded("saleAt", shop, x -> x.saleAt(0, 0), 0);
        recorded("count", shop, x -> x.count(8), 0);
        recorded("least", shop, x -> x.least(0, 6, 0), 0);
        recorded("best", shop, x -> x.best(0, 6), 0);
        recorded("planned", shop, x -> x.planned(0, 6, 0), 0);
        recorded("regret", shop, x -> x.regret(0, 6, 0), 0);
        recorded("levelValue", shop, x -> x.levelValue(0, 6, 0), 0);
        recorded("shape", shop, x -> x.shape(6, 0), 0);
        recorded("bestPlan", shop, x -> x.bestPlan(0, 3, 0), 0);
        recorded("type", shop, x -> x.type('x'), 0);
        recorded("fault", shop, x -> x.fault(0), 0);
        recorded("clearText", shop, x -> x.clearText(), 0);
    }

    private static void errorsAreNone() {
        says("that return no error");
        recorded("weigh", fresh(), shop -> shop.weigh(0, 0), 0);
        recorded("weigh out of range", fresh(), shop -> shop.weigh(7, 1), 0);
        recorded("cost", fresh(), shop -> shop.cost(5, 0), 0);
        recorded("season", fresh(), shop -> shop.season(0, 0), 0);
        recorded("plan", fresh(), shop -> shop.plan(1, 2, 1), 0);
        recorded("order", fresh(), shop -> shop.order(0), 0);
        recorded("follow", fresh(), shop -> shop.follow(), 0);
        recorded("sell", fresh(), shop -> shop.sell(0), 0);
        OrderLevels faulty = fresh();
        faulty.type('x');
        recorded("play", faulty, shop -> shop.play(), 0);
    }

    private static void mostFourStates() {
        says("A history of at most 4 states is kept");
        OrderLevels shop = fresh();
        due("count(10) at first", shop.count(10), 0);
        for (int change = 1; change <= 13; change++) {
            shop.cost(0, change);
            due("count(10) of " + change, shop.count(10), change < 4 ? change : 4);
        }
    }

    private static void fourStatesRestored() {
        says("A history of at most 4 states is kept");
        OrderLevels shop = fresh();
        for (int change = 1; change <= 4; change++) {
            shop.cost(0, 10 + change);
        }
        for (int left = 3; left >= 1; left--) {
            due("undo()", shop.undo(), left);
            due("setting(1, 0)", shop.setting(1, 0), 10 + left);
        }
        due("undo() of the fourth", shop.undo(), 0);
        due("setting(1, 0) at first", shop.setting(1, 0), 5);
        due("undo() of a fifth", shop.undo(), IMPOSSIBLE);
    }

    private static void fifthDropsTheOldest() {
        says("if there are 5 states then, the oldest one is dropped");
        for (int changes = 5; changes <= 12; changes++) {
            OrderLevels shop = fresh();
            for (int change = 1; change <= changes; change++) {
                shop.cost(0, 10 + change);
            }
            for (int left = 3; left >= 0; left--) {
                due("undo() of " + changes, shop.undo(), left);
                due("setting(1, 0) of " + changes, shop.setting(1, 0), 10 + changes - 4 + left);
            }
            due("undo() of none", shop.undo(), IMPOSSIBLE);
            due("setting(1, 0)", shop.setting(1, 0), 10 + changes - 4);
        }
    }

    /** Changes and undos in turn, so that the oldest state stands at each place of the history. */
    private static void ringTurns() {
        says("each change records everything before it but the text, and if there are 5 states then,"
                + " the oldest one is dropped");
        for (int undone = 0; undone <= 4; undone++) {
            OrderLevels shop = fresh();
            for (int change = 1; change <= 6; change++) {
                shop.cost(0, 10 + change);
            }
            for (int i = 0; i < undone; i++) {
                shop.undo();
            }
            for (int change = 1; change <= 3; change++) {
                shop.cost(0, 20 + change);
            }
            int[] want = {22, 21, 16 - undone, 15 - undone};
            int states = Math.min(4, 7 - undone);
            due("count(10) after " + undone, shop.count(10), states);
            for (int i = 0; i < states; i++) {
                due("undo() after " + undone, shop.undo(), states - 1 - i);
                due("setting(1, 0) after " + undone, shop.setting(1, 0), want[i]);
            }
            due("undo() of none", shop.undo(), IMPOSSIBLE);
        }
    }

    private static void playDropsTheOldest() {
        says("if there are 5 states then, the oldest one is dropped");
        OrderLevels shop = fresh();
        for (int change = 1; change <= 4; change++) {
            shop.cost(0, 10 + change);
        }
        CHECKS.write(shop, "cost 0 50;cost 0 51;");
        due("play()", shop.play(), 2);
        due("count(10)", shop.count(10), 4);
        for (int left = 3; left >= 0; left--) {
            due("undo()", shop.undo(), left);
            due("setting(1, 0)", shop.setting(1, 0), 11 + left);
        }
        due("undo() of none", shop.undo(), IMPOSSIBLE);
    }

    /** A shop in which nothing is as at first. */
    private static OrderLevels busy() {
        OrderLevels shop = Shops.of(2, 0, 3, 0, 0, 1, 1, 6, 2, 3, 9, 1);
        for (int periods = 1; periods <= 6; periods++) {
            shop.plan(periods, periods, 10 + periods);
        }
        for (int sale = 0; sale < 7; sale++) {
            shop.season(sale, 1 + sale % 3);
            shop.follow();
            shop.sell(6 - sale % 7);
        }
        shop.season(4, 5);
        shop.order(9);
        return shop;
    }

    private static void undone(String call, ToLongFunction<OrderLevels> change) {
        OrderLevels shop = busy();
        OrderLevels other = busy();
        due(call + " is no error", change.applyAsLong(shop) < 0 ? 1 : 0, 0);
        due("undo of " + call, shop.undo(), 3);
        // The change has dropped the oldest of four states, so that only three can be compared.
        long[] got = Shops.state(shop);
        long[] want = Shops.state(other);
        got[10] = want[10];
        for (int i = 0; i < want.length; i++) {
            due("number " + i + " of the state after undo of " + call, got[i], want[i]);
        }
        due("least(0, 6, 0)", shop.least(0, 6, 0), other.least(0, 6, 0));
        due("planned(0, 6, 0)", shop.planned(0, 6, 0), other.planned(0, 6, 0));
    }

    private static void everythingBeforeIt() {
        says("each change records everything before it");
        undone("weigh", shop -> shop.weigh(6, 5));
        undone("cost", shop -> shop.cost(4, 9));
        undone("plan", shop -> shop.plan(6, 20, 20));
        undone("season", shop -> shop.season(20, 6));
        undone("sell", shop -> shop.sell(6));
        undone("play", shop -> shop.play());
        OrderLevels next = busy();
        next.sell(3);
        long[] before = Shops.state(next);
        due("order(20)", next.order(20), 6 + 2 * 14);
        next.undo();
        sameNumbers("order", Shops.state(next), before);
        due("follow()", next.follow(), 6);
        next.undo();
        sameNumbers("follow", Shops.state(next), before);
    }

    /** Nothing is asked between the changes, as asking must not be what keeps a state right. */
    private static void changesInARow() {
        says("each change records everything before it");
        OrderLevels shop = fresh();
        shop.plan(3, 5, 9);
        shop.season(4, 3);
        shop.follow();
        shop.sell(2);
        shop.undo();
        due("count(0) after undo of sell", shop.count(0), 9);
        due("count(2) after undo of sell", shop.count(2), 1);
        shop.undo();
        due("count(0) after undo of follow", shop.count(0), 4);
        due("count(1) after undo of follow", shop.count(1), 3);
        due("count(2) after undo of follow", shop.count(2), 0);
        shop.order(7);
        shop.weigh(1, 2);
        shop.undo();
        due("count(3) after undo of weigh", shop.count(3), 1);
        shop.undo();
        due("count(0) after undo of order", shop.count(0), 4);
        shop.undo();
        due("count(1) after undo of season", shop.count(1), 0);
        due("setting(2, 3) after undo of season", shop.setting(2, 3), 5);
        shop.undo();
        due("setting(2, 3) after undo of plan", shop.setting(2, 3), 0);
    }

    /** A change, one that is refused, and a change: the refused one leaves no state behind. */
    private static void refusedInARow() {
        says("A call that returns an error changes nothing.");
        OrderLevels shop = fresh();
        shop.season(4, 3);
        shop.order(3);
        shop.follow();
        shop.follow();
        shop.sell(1);
        shop.sell(7);
        shop.undo();
        due("count(0) after undo of sell", shop.count(0), 4);
        due("count(2) after undo of sell", shop.count(2), 1);
        shop.undo();
        due("count(2) after undo of follow", shop.count(2), 0);
        due("undo() of season", shop.undo(), 0);
        due("count(1) after undo of season", shop.count(1), 0);
    }

    private static void sameNumbers(String call, long[] got, long[] want) {
        for (int i = 0; i < want.length; i++) {
            // The number of states is less by the one that was dropped.
            if (i != 10) {
                due("number " + i + " of the state after undo of " + call, got[i], want[i]);
            }
        }
    }

    private static void allButTheText() {
        says("each change records everything before it but the text");
        OrderLevels shop = fresh();
        shop.type('a');
        shop.season(3, 3);
        shop.type('b');
        shop.type('c');
        due("undo()", shop.undo(), 0);
        due("count(11) after undo", shop.count(11), 3);
        shop.season(3, 3);
        shop.clearText();
        due("undo() after clearText", shop.undo(), 0);
        due("count(11) after it", shop.count(11), 0);
        CHECKS.write(shop, "cost 0 9;");
        shop.play();
        due("undo() of play", shop.undo(), 0);
        due("play() again, as the text stays", shop.play(), 1);
    }

    private static void invalidAheadOfImpossible() {
        says("If several errors apply to a call, INVALID_ARGUMENT is returned rather than"
                + " NOT_POSSIBLE");
        OrderLevels shop = fresh();
        due("order(21) without a season", shop.order(21), INVALID);
        due("order(-1) without a season", shop.order(-1), INVALID);
        due("sell(7) without a season", shop.sell(7), INVALID);
        due("sell(-1) without a season", shop.sell(-1), INVALID);
        due("weigh(7, 0)", shop.weigh(7, 0), INVALID);
        due("weigh(0, -1) to a sum of -1", shop.weigh(0, -1), INVALID);
        due("weigh(-1, 0)", shop.weigh(-1, 0), INVALID);
        shop.season(4, 1);
        shop.order(4);
        due("order(21) twice", shop.order(21), INVALID);
        due("order(-1) below the stock", shop.order(-1), INVALID);
        shop.sell(0);
        due("order(21) behind the last", shop.order(21), INVALID);
        due("sell(7) behind the last", shop.sell(7), INVALID);
    }

    private static void invalidAheadOfLimit() {
        says("INVALID_ARGUMENT is returned rather than NOT_POSSIBLE, NOT_POSSIBLE rather than"
                + " LIMIT_REACHED");
        OrderLevels shop = fresh();
        shop.weigh(0, 9);
        shop.weigh(1, 3);
        due("weigh(1, 10)", shop.weigh(1, 10), INVALID);
        due("weigh(2, 10)", shop.weigh(2, 10), INVALID);
        due("weigh(7, 9)", shop.weigh(7, 9), INVALID);
        due("weigh(2, 9)", shop.weigh(2, 9), LIMIT);
        for (int length = 1; length <= 80; length++) {
            shop.type('a');
        }
        due("type(31) to a full text", shop.type(31), INVALID);
        due("type(127) to a full text", shop.type(127), INVALID);
        due("type(97) to a full text", shop.type('a'), LIMIT);
    }

    private static void invalidAheadOfNotFound() {
        says("INVALID_ARGUMENT is returned rather than NOT_POSSIBLE, .. and LIMIT_REACHED rather than"
                + " NOT_FOUND");
        OrderLevels shop = fresh();
        due("saleAt(0, 4) without a sale", shop.saleAt(0, 4), INVALID);
        due("saleAt(0, -1) without a sale", shop.saleAt(0, -1), INVALID);
        due("saleAt(-1, 0) without a sale", shop.saleAt(-1, 0), INVALID);
        due("saleAt(6, 4) without a sale", shop.saleAt(6, 4), INVALID);
        due("saleAt(6, 3) without a sale", shop.saleAt(6, 3), NONE);
        due("fault(2) of no text", shop.fault(2), INVALID);
        due("fault(-1) of no text", shop.fault(-1), INVALID);
        due("shape(0, 1) of none", shop.shape(0, 1), INVALID);
        due("shape(7, 3) of none", shop.shape(7, 3), INVALID);
        due("shape(7, 5) of none", shop.shape(7, 5), INVALID);
        due("shape(6, 5) of none", shop.shape(6, 5), NONE);
    }

    private static OrderLevels ordered() {
        OrderLevels shop = busy();
        CHECKS.write(shop, "cost 0 9;season 20 2;sell 1;sell 1;sell 1;cost 5 5;");
        return shop;
    }

    private static OrderLevels ended() {
        OrderLevels shop = fresh();
        shop.weigh(6, 9);
        shop.weigh(5, 2);
        shop.season(3, 1);
        shop.sell(1);
        for (int length = 1; length <= 80; length++) {
            shop.type('a');
        }
        return shop;
    }

    private static void errorsChangeNothing() {
        says("A call that returns an error changes nothing.");
        errorsOf("a busy shop", ChangesEdgesTest::ordered);
        errorsOf("a season that ended", ChangesEdgesTest::ended);
        errorsOf("a new shop", OrderLevels::new);
        nothing("a season that ended", ChangesEdgesTest::ended, "sell", x -> x.sell(1), IMPOSSIBLE);
        nothing("a season that ended", ChangesEdgesTest::ended, "follow", x -> x.follow(), IMPOSSIBLE);
        nothing("a season that ended", ChangesEdgesTest::ended, "order", x -> x.order(9), IMPOSSIBLE);
        nothing("a season that ended", ChangesEdgesTest::ended, "weigh", x -> x.weigh(0, 2), LIMIT);
        nothing("a season that ended", ChangesEdgesTest::ended, "type", x -> x.type(';'), LIMIT);
        nothing("a season that ended", ChangesEdgesTest::ended, "play", x -> x.play(), IMPOSSIBLE);
        nothing("a busy shop", ChangesEdgesTest::ordered, "order", x -> x.order(20), IMPOSSIBLE);
        nothing("a busy shop", ChangesEdgesTest::ordered, "follow", x -> x.follow(), IMPOSSIBLE);
        nothing("a busy shop", ChangesEdgesTest::ordered, "play", x -> x.play(), IMPOSSIBLE);
        nothing("a new shop", OrderLevels::new, "weigh", x -> x.weigh(0, 0), IMPOSSIBLE);
        nothing("a new shop", OrderLevels::new, "undo", x -> x.undo(), IMPOSSIBLE);
    }

    private static void errorsOf(String name, Supplier<OrderLevels> made) {
        int[] wrong = {-1, Integer.MIN_VALUE, 100, Integer.MAX_VALUE};
        for (int bad : wrong) {
            nothing(name, made, "weigh", x -> x.weigh(bad, 1), INVALID);
            nothing(name, made, "weigh", x -> x.weigh(1, bad), INVALID);
            nothing(name, made, "cost", x -> x.cost(bad, 1), INVALID);
            nothing(name, made, "cost", x -> x.cost(1, bad), INVALID);
            nothing(name, made, "plan", x -> x.plan(bad, 3, 9), INVALID);
            nothing(name, made, "plan", x -> x.plan(3, bad, 9), INVALID);
            nothing(name, made, "plan", x -> x.plan(3, 9, bad), INVALID);
            nothing(name, made, "setting", x -> x.setting(bad, 1), INVALID);
            nothing(name, made, "setting", x -> x.setting(2, bad), INVALID);
            nothing(name, made, "season", x -> x.season(bad, 3), INVALID);
            nothing(name, made, "season", x -> x.season(3, bad), INVALID);
            nothing(name, made, "order", x -> x.order(bad), INVALID);
            nothing(name, made, "sell", x -> x.sell(bad), INVALID);
            nothing(name, made, "saleAt", x -> x.saleAt(0, bad), INVALID);
            nothing(name, made, "count", x -> x.count(bad), INVALID);
            nothing(name, made, "least", x -> x.least(bad, 1, 0), INVALID);
            nothing(name, made, "best", x -> x.best(0, bad), INVALID);
            nothing(name, made, "planned", x -> x.planned(0, bad, 0), INVALID);
            nothing(name, made, "regret", x -> x.regret(0, 0, bad), INVALID);
            nothing(name, made, "levelValue", x -> x.levelValue(bad, 1, 0), INVALID);
            nothing(name, made, "shape", x -> x.shape(1, bad), INVALID);
            nothing(name, made, "bestPlan", x -> x.bestPlan(0, bad, 0), INVALID);
            nothing(name, made, "fault", x -> x.fault(bad), INVALID);
        }
        nothing(name, made, "plan", x -> x.plan(3, 9, 8), INVALID);
        nothing(name, made, "type", x -> x.type(31), INVALID);
        nothing(name, made, "type", x -> x.type(127), INVALID);
        nothing(name, made, "saleAt", x -> x.saleAt(6, 0), NONE);
    }

    /** The call answers the error, and two objects stay alike of which one alone had it. */
    private static void nothing(String name, Supplier<OrderLevels> made, String call,
            ToLongFunction<OrderLevels> wrong, int error) {
        OrderLevels shop = made.get();
        due(call + " in " + name, wrong.applyAsLong(shop), error);
        CHECKS.same(call + " in " + name, shop, made.get());
    }

    private static void latestState() {
        says("Restores the latest state of the history");
        OrderLevels shop = fresh();
        shop.season(2, 2);
        shop.order(9);
        shop.sell(6);
        due("undo() of sell", shop.undo(), 2);
        due("count(0) after it", shop.count(0), 9);
        due("count(2) after it", shop.count(2), 1);
        due("undo() of order", shop.undo(), 1);
        due("count(0) after it", shop.count(0), 2);
        due("count(8) after it", shop.count(8), 0);
        due("undo() of season", shop.undo(), 0);
        due("count(0) after it", shop.count(0), 0);
        due("count(1) after it", shop.count(1), 0);
    }

    private static void latestIsRemoved() {
        says("which is removed from it");
        OrderLevels shop = fresh();
        shop.cost(0, 11);
        shop.cost(0, 12);
        due("undo()", shop.undo(), 1);
        due("setting(1, 0)", shop.setting(1, 0), 11);
        shop.cost(0, 13);
        due("count(10)", shop.count(10), 2);
        due("undo() of another change", shop.undo(), 1);
        due("setting(1, 0)", shop.setting(1, 0), 11);
        due("undo()", shop.undo(), 0);
        due("setting(1, 0)", shop.setting(1, 0), 5);
    }

    private static void undoLeft() {
        says("Returns the number of states that are left in the history");
        for (int changes = 1; changes <= 6; changes++) {
            OrderLevels shop = fresh();
            for (int change = 0; change < changes; change++) {
                shop.plan(1, change, 20);
            }
            for (int left = Math.min(4, changes) - 1; left >= 0; left--) {
                due("undo() of " + changes, shop.undo(), left);
                due("count(10) of " + changes, shop.count(10), left);
            }
        }
    }

    private static void undoOfNone() {
        says("NOT_POSSIBLE if it is empty");
        OrderLevels shop = fresh();
        due("undo() at first", shop.undo(), IMPOSSIBLE);
        due("undo() again", shop.undo(), IMPOSSIBLE);
        due("count(10)", shop.count(10), 0);
        shop.season(3, 3);
        due("undo() of one", shop.undo(), 0);
        due("undo() of none", shop.undo(), IMPOSSIBLE);
        shop.type('x');
        shop.weigh(0, 0);
        due("undo() after an error and a character", shop.undo(), IMPOSSIBLE);
    }

    private static void undoIsNoChange() {
        says("The changes are the calls of weigh, cost, season, plan, order, follow, sell and play");
        OrderLevels shop = fresh();
        shop.cost(0, 11);
        shop.cost(0, 12);
        shop.cost(0, 13);
        shop.undo();
        due("count(10) after undo", shop.count(10), 2);
        shop.undo();
        due("setting(1, 0), undo is not undone", shop.setting(1, 0), 11);
    }

    private static void objectsApart() {
        says("Creates a shop without a season.");
        OrderLevels shop = busy();
        shop.type('x');
        CHECKS.same("a new object beside another", fresh(), fresh());
        due("count(1) of the other", shop.count(1), 5);
        due("undo() of the other", shop.undo(), 3);
    }
}
