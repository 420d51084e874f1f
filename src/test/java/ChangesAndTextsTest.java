/** Promises 19 to 23: undo, type, clearText, fault, play. */
public final class ChangesAndTextsTest {
    private static final int INVALID = OrderLevels.INVALID_ARGUMENT;
    private static final int IMPOSSIBLE = OrderLevels.NOT_POSSIBLE;
    private static final int NONE = OrderLevels.NOT_FOUND;

    private static final Checks CHECKS = new Checks();

    public static void main(String[] args) {
        historyHoldsFour();
        eachChangeIsRecorded();
        errorsRecordNothing();
        eachChangeIsUndone();
        undoRestoresAll();
        typing();
        forms();
        ranges();
        impossible();
        faultsInOrder();
        nothingBehindTheEnd();
        fullTexts();
        faultChangesNothing();
        playing();
        playIsOneChange();
        faultErrors();
        CHECKS.end("changes and texts");
    }

    private static void due(String call, long got, long want) {
        CHECKS.due(call, got, want);
    }

    private static void historyHoldsFour() {
        OrderLevels shop = new OrderLevels();
        due("undo() at first", shop.undo(), IMPOSSIBLE);
        for (int value = 10; value <= 15; value++) {
            shop.cost(0, value);
            due("count(10)", shop.count(10), Math.min(4, value - 9));
        }
        for (int left = 3; left >= 0; left--) {
            due("undo()", shop.undo(), left);
            due("setting(1, 0)", shop.setting(1, 0), 11 + left);
            due("count(10)", shop.count(10), left);
        }
        due("undo() of none", shop.undo(), IMPOSSIBLE);
        due("setting(1, 0)", shop.setting(1, 0), 11);
        shop.cost(0, 50);
        due("undo() after a new change", shop.undo(), 0);
        due("setting(1, 0)", shop.setting(1, 0), 11);
    }

    private static void eachChangeIsRecorded() {
        OrderLevels shop = new OrderLevels();
        shop.weigh(0, 1);
        due("weigh of the same is a change", shop.count(10), 1);
        shop.cost(0, 5);
        due("cost of the same is a change", shop.count(10), 2);
        shop.plan(1, 0, 0);
        due("plan of the same is a change", shop.count(10), 3);
        shop.season(0, 1);
        due("season is a change", shop.count(10), 4);
        while (shop.count(10) > 0) {
            shop.undo();
        }
        shop.season(2, 2);
        shop.order(2);
        due("order is a change", shop.count(10), 2);
        shop.sell(0);
        due("sell is a change", shop.count(10), 3);
        shop.follow();
        due("follow is a change", shop.count(10), 4);
    }

    private static void errorsRecordNothing() {
        OrderLevels shop = new OrderLevels();
        shop.weigh(0, 0);
        shop.weigh(7, 0);
        shop.cost(5, 0);
        shop.plan(0, 0, 0);
        shop.season(0, 0);
        shop.order(0);
        shop.follow();
        shop.sell(0);
        CHECKS.write(shop, "sell 0;");
        shop.play();
        shop.fault(0);
        due("count(10) after errors", shop.count(10), 0);
    }

    /** The state that each kind of change records is the one just ahead of it. */
    private static void eachChangeIsUndone() {
        OrderLevels shop = new OrderLevels();
        shop.weigh(1, 2);
        shop.weigh(1, 3);
        shop.undo();
        due("setting(0, 1)", shop.setting(0, 1), 2);
        shop.cost(2, 3);
        shop.cost(2, 4);
        shop.undo();
        due("setting(1, 2)", shop.setting(1, 2), 3);
        shop.plan(6, 1, 5);
        shop.plan(6, 2, 7);
        shop.undo();
        due("setting(2, 6)", shop.setting(2, 6), 1);
        due("setting(3, 6)", shop.setting(3, 6), 5);
        shop.season(0, 6);
        shop.season(9, 2);
        shop.undo();
        due("count(0)", shop.count(0), 0);
        due("count(1)", shop.count(1), 6);
        shop.cost(2, 5);
        shop.order(4);
        shop.undo();
        due("setting(1, 2) after order and undo", shop.setting(1, 2), 5);
        due("count(0) after order and undo", shop.count(0), 0);
        due("count(2) after order and undo", shop.count(2), 0);
        due("count(5) after order and undo", shop.count(5), 0);
        due("count(8) after order and undo", shop.count(8), 0);
        shop.follow();
        due("count(0)", shop.count(0), 5);
        shop.undo();
        due("count(0) after follow and undo", shop.count(0), 0);
        due("count(4) after follow and undo", shop.count(4), 0);
        shop.order(4);
        shop.sell(6);
        shop.undo();
        due("count(0) after sell and undo", shop.count(0), 4);
        due("count(1) after sell and undo", shop.count(1), 6);
        due("count(2) after sell and undo", shop.count(2), 1);
        due("count(6) after sell and undo", shop.count(6), 0);
        due("count(7) after sell and undo", shop.count(7), 0);
        due("count(9) after sell and undo", shop.count(9), 0);
    }

    private static void undoRestoresAll() {
        OrderLevels shop = new OrderLevels();
        shop.plan(2, 4, 9);
        shop.season(1, 2);
        shop.follow();
        shop.sell(6);
        due("count(8)", shop.count(8), 5 + 8 + 3);
        CHECKS.write(shop, "weight 2 7;cost 3 29;plan 6 1 2;sell 5;season 9 6;order 12;sell 3;");
        due("play()", shop.play(), 7);
        int[] played = {9, 5, 0, 8, 2, 11, 12, 2, 91, 3, 4, 66};
        for (int what = 0; what < played.length; what++) {
            due("count(" + what + ") after play", shop.count(what), played[what]);
        }
        due("setting(0, 2) after play", shop.setting(0, 2), 7);
        due("setting(1, 3) after play", shop.setting(1, 3), 29);
        due("setting(2, 6) after play", shop.setting(2, 6), 1);
        due("setting(3, 6) after play", shop.setting(3, 6), 2);
        due("saleAt(0, 2) after play", shop.saleAt(0, 2), 12);
        due("saleAt(2, 2) after play", shop.saleAt(2, 2), 9);
        due("undo()", shop.undo(), 3);
        int[] want = {3, 1, 0, 1, 1, 8, 6, 0, 16, 1, 3, 66};
        for (int what = 0; what < want.length; what++) {
            due("count(" + what + ") after undo", shop.count(what), want[what]);
        }
        due("setting(0, 2)", shop.setting(0, 2), 0);
        due("setting(1, 3)", shop.setting(1, 3), 4);
        due("setting(2, 6)", shop.setting(2, 6), 0);
        due("setting(3, 6)", shop.setting(3, 6), 0);
        due("saleAt(0, 0)", shop.saleAt(0, 0), 6);
        due("saleAt(0, 2)", shop.saleAt(0, 2), 9);
        due("saleAt(1, 0)", shop.saleAt(1, 0), NONE);
        due("undo() of the sale", shop.undo(), 2);
        due("count(0)", shop.count(0), 9);
        due("count(2)", shop.count(2), 1);
        due("saleAt(0, 0)", shop.saleAt(0, 0), NONE);
        due("undo() of follow", shop.undo(), 1);
        due("count(0)", shop.count(0), 1);
        due("count(2)", shop.count(2), 0);
        due("count(4)", shop.count(4), 0);
        due("count(11), the text stays", shop.count(11), 66);
        due("count(10)", shop.count(10), 1);
    }

    private static void typing() {
        OrderLevels shop = new OrderLevels();
        due("type(31)", shop.type(31), INVALID);
        due("type(127)", shop.type(127), INVALID);
        due("type(-1)", shop.type(-1), INVALID);
        due("type(most)", shop.type(Integer.MAX_VALUE), INVALID);
        due("type(65536 + 65)", shop.type(65536 + 65), INVALID);
        due("type(32)", shop.type(32), 1);
        due("type(126)", shop.type(126), 2);
        for (int length = 3; length <= 80; length++) {
            due("type to " + length, shop.type('x'), length);
        }
        due("type(65) of the 81st", shop.type(65), OrderLevels.LIMIT_REACHED);
        due("type(31) of the 81st", shop.type(31), INVALID);
        due("count(11)", shop.count(11), 80);
        due("clearText()", shop.clearText(), 80);
        due("clearText() again", shop.clearText(), 0);
        due("count(11)", shop.count(11), 0);
        due("type(65)", shop.type(65), 1);
        due("count(10), texts are no changes", shop.count(10), 0);
    }

    private static void fault(OrderLevels shop, String text, int position, int reason) {
        CHECKS.write(shop, text);
        due("fault(0) of \"" + text + "\"", shop.fault(0), position);
        due("fault(1) of \"" + text + "\"", shop.fault(1), reason);
        if (reason > 0) {
            due("play() of \"" + text + "\"", shop.play(), IMPOSSIBLE);
        }
    }

    private static void forms() {
        String[] right = {"", "weight 0 1;", "weight 00 01;", "cost 0 99;", "season 20 6;",
            "season 09 06;", "plan 6 0 20;", "plan 1 20 20;", "season 0 1;order 0;",
            "season 0 1;follow;sell 6;"};
        for (String text : right) {
            fault(new OrderLevels(), text, NONE, NONE);
        }
        String[] wrong = {"x", ";", " ", "weight", "weight 1 2", "weight 1;", "weight 1 2 3;",
            "weight 001 2;", "weight 1 100;", "weight  1 2;", " weight 1 2;", "weight 1 2 ;",
            "weight 1  2;", "Weight 1 2;", "weight1 2;", "weight -1 2;", "weight +1 2;",
            "weight a 2;", "weights 1 2;", "weight 1,2;", "weight;", "weight ;", "weight 1 ;",
            "cost 1;", "cost 0 1 2;", "season 1;", "season 1 2 3;", "plan 1 2;", "plan 1 2 3 4;",
            "order;", "order ;", "order 1 2;", "order 100;", "follow ;", "follow 1;", "follow",
            "follo;", "follows;", "sell;", "sell 1 1;", "sell 000;", "sel 1;", "sell 1:",
            "undo;", "play;", "sell\"1;", "se", "w", "weight 1 2:;",
            " 1 2;", " 1;", "1 2;", "a 1 2;"};
        for (String text : wrong) {
            OrderLevels shop = new OrderLevels();
            fault(shop, text, 0, 1);
            fault(shop, "cost 0 5;" + text, 9, 1);
        }
        OrderLevels shop = new OrderLevels();
        fault(shop, "cost 0 5; cost 0 6;", 9, 1);
        fault(shop, "cost 0 5;;", 9, 1);
        fault(shop, "cost 0 5;cost 0 6; ", 18, 1);
    }

    private static void ranges() {
        String[] wrong = {"weight 7 1;", "weight 0 10;", "weight 99 99;", "cost 5 0;", "cost 1 10;",
            "cost 2 10;", "cost 3 30;", "cost 4 10;", "season 21 1;", "season 0 0;", "season 0 7;",
            "plan 0 1 2;", "plan 7 1 2;", "plan 1 3 2;", "plan 1 1 21;", "plan 1 21 21;",
            "order 21;", "sell 7;"};
        for (String text : wrong) {
            OrderLevels shop = new OrderLevels();
            fault(shop, text, 0, 2);
            fault(shop, "season 4 6;" + text, 11, 2);
        }
        fault(new OrderLevels(), "season 4 6;order 5;order 99;", 19, 2);
    }

    private static void impossible() {
        OrderLevels shop = new OrderLevels();
        String[] wrong = {"weight 0 0;", "order 0;", "order 20;", "follow;", "sell 0;", "sell 6;"};
        for (String text : wrong) {
            fault(shop, text, 0, 3);
        }
        fault(shop, "weight 1 9;weight 2 3;", 11, 3);
        fault(shop, "weight 1 9;weight 0 0;weight 2 3;weight 2 4;", 33, 3);
        fault(shop, "season 4 2;order 3;", 11, 3);
        fault(shop, "season 4 2;order 4;order 4;", 19, 3);
        fault(shop, "season 4 2;order 4;follow;", 19, 3);
        fault(shop, "season 4 2;follow;order 5;", 18, 3);
        fault(shop, "season 4 1;sell 1;sell 1;", 18, 3);
        shop.season(5, 1);
        fault(shop, "order 5;sell 5;order 0;", 15, 3);
        shop.order(6);
        fault(shop, "order 7;", 0, 3);
        fault(shop, "sell 6;season 0 1;order 7;", NONE, NONE);
    }

    private static void faultsInOrder() {
        OrderLevels shop = new OrderLevels();
        // The first command that is not possible counts, not the first reason.
        fault(shop, "season 1 1;sell 1;sell 1;sell 9;x", 18, 3);
        fault(shop, "season 1 1;sell 9;sell 1;sell 1;", 11, 2);
        fault(shop, "sell 9", 0, 1);
        fault(shop, "order 99;", 0, 2);
    }

    /** What stood in a text that was emptied does not count any more. */
    private static void nothingBehindTheEnd() {
        OrderLevels shop = new OrderLevels();
        shop.season(0, 6);
        fault(shop, "cost 0 5;follow;", NONE, NONE);
        fault(shop, "cost 0 5;follow", 9, 1);
        fault(shop, "cost 0 5;follow;", NONE, NONE);
        fault(shop, "cost 0 5;fol", 9, 1);
        fault(shop, "sell 1;sell 2;", NONE, NONE);
        fault(shop, "sell 1;", NONE, NONE);
        due("play() of the shorter text", shop.play(), 1);
        fault(shop, "sell 1;sell ", 7, 1);
    }

    /** Texts of 80 characters, in which the last command stops at the very end. */
    private static void fullTexts() {
        OrderLevels shop = new OrderLevels();
        String seventyTwo = "cost 0 5;".repeat(8);
        String[] ends = {"cost 0 5", "weight 1", "season 1", "sell  1;", "followed", "plan 1 2"};
        for (String end : ends) {
            fault(new OrderLevels(), seventyTwo + end, 72, 1);
        }
        fault(shop, "season 00 06;" + "cost 0 5;".repeat(5) + "weight 1 1;order 10;se", 78, 1);
        fault(shop, "season 00 06;" + "cost 0 5;".repeat(6) + "order 10;sell", 76, 1);
        fault(shop, "season 00 06;" + "cost 00 05;".repeat(5) + "plan 1 1 20;", NONE, NONE);
        due("count(11)", shop.count(11), 80);
        due("play()", shop.play(), 7);
        fault(shop, "season 00 06;" + "cost 00 05;".repeat(4) + "weight 0 1;follow;sell ", 75, 1);
    }

    private static void faultChangesNothing() {
        OrderLevels shop = new OrderLevels();
        shop.season(6, 3);
        CHECKS.write(shop, "order 9;sell 4;cost 0 7;weight 3 3;plan 1 2 3;");
        due("fault(0)", shop.fault(0), NONE);
        due("fault(0) again", shop.fault(0), NONE);
        due("count(0)", shop.count(0), 6);
        due("count(1)", shop.count(1), 3);
        due("count(2)", shop.count(2), 0);
        due("count(3)", shop.count(3), 1);
        due("count(8)", shop.count(8), 0);
        due("count(10)", shop.count(10), 1);
        due("setting(1, 0)", shop.setting(1, 0), 5);
        due("setting(3, 1)", shop.setting(3, 1), 0);
    }

    private static void playing() {
        OrderLevels shop = new OrderLevels();
        CHECKS.write(shop, "cost 4 2;season 3 2;order 5;sell 4;plan 1 3 8;follow;sell 6;");
        due("play()", shop.play(), 7);
        due("count(8)", shop.count(8), 26);
        due("count(0)", shop.count(0), 2);
        due("count(1)", shop.count(1), 0);
        due("count(4)", shop.count(4), 2);
        due("saleAt(1, 2)", shop.saleAt(1, 2), 5);
        due("count(11), the text stays", shop.count(11), 60);
        due("play() again", shop.play(), 7);
        due("count(8)", shop.count(8), 52);
        due("count(9)", shop.count(9), 4);
        CHECKS.write(shop, "weight 1 4;weight 0 0;sell 1;");
        due("play() with a fault", shop.play(), IMPOSSIBLE);
        due("count(3) after the fault", shop.count(3), 1);
        due("count(11)", shop.count(11), 29);
    }

    private static void playIsOneChange() {
        OrderLevels shop = new OrderLevels();
        due("play() of no text", shop.play(), 0);
        due("count(10)", shop.count(10), 1);
        CHECKS.write(shop, "cost 0 1;cost 0 2;cost 0 3;cost 0 4;cost 0 6;cost 0 7;");
        due("play()", shop.play(), 6);
        due("count(10)", shop.count(10), 2);
        due("setting(1, 0)", shop.setting(1, 0), 7);
        due("undo()", shop.undo(), 1);
        due("setting(1, 0)", shop.setting(1, 0), 5);
        due("undo()", shop.undo(), 0);
    }

    private static void faultErrors() {
        OrderLevels shop = new OrderLevels();
        due("fault(0) of no text", shop.fault(0), NONE);
        due("fault(1) of no text", shop.fault(1), NONE);
        for (int what : new int[] {-1, 2, Integer.MIN_VALUE, Integer.MAX_VALUE}) {
            due("fault(" + what + ")", shop.fault(what), INVALID);
        }
        CHECKS.write(shop, "x");
        due("fault(2)", shop.fault(2), INVALID);
        shop.clearText();
        due("fault(0) of a text emptied", shop.fault(0), NONE);
    }
}
