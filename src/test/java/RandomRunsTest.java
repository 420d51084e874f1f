import java.util.Random;

/** Runs of calls by chance (always the same ones), answered by the class and by the slow model. */
public final class RandomRunsTest {
    private static final int RUNS = 1200;
    private static final int MOST_CALLS = 512;
    // The most calls of one turn, and those that look at the whole state at the end.
    private static final int TURN_CALLS = 5;
    private static final int STATE_CALLS = 12 + 4 * 7 * 2;
    private static final String[] WORDS = {
        "weight", "cost", "season", "plan", "order", "follow", "sell",
    };
    private static final int[] NUMBERS = {2, 2, 2, 3, 1, 0, 1};
    private static final int[][] NUMBER_ENDS = {
        {7, 4}, {5, 10}, {21, 7}, {7, 12, 21}, {21}, {}, {7},
    };

    private final Checks checks = new Checks();
    private final Random random = new Random(20261118);
    private OrderLevels shop;
    private SlowShop slow;
    private int run;
    private int calls;
    private String wanted = "";

    public static void main(String[] args) {
        RandomRunsTest test = new RandomRunsTest();
        for (test.run = 0; test.run < RUNS; test.run++) {
            test.oneRun();
        }
        test.checks.end("random runs");
    }

    private void oneRun() {
        shop = new OrderLevels();
        slow = new SlowShop();
        wanted = "";
        calls = 0;
        while (calls + TURN_CALLS + STATE_CALLS <= MOST_CALLS) {
            oneCall();
        }
        wholeState();
    }

    private void due(String call, long got, long want) {
        calls++;
        checks.due("run " + run + ": " + call, got, want);
    }

    /** A number that is mostly from 0 to most, and now and then beside that. */
    private int upTo(int most) {
        int chance = random.nextInt(40);
        if (chance == 0) {
            return -1 - random.nextInt(3);
        }
        if (chance == 1) {
            return most + 1 + random.nextInt(3);
        }
        if (chance == 2) {
            return random.nextInt();
        }
        return random.nextInt(most + 1);
    }

    private void oneCall() {
        if (!wanted.isEmpty()) {
            typeNext();
            return;
        }
        int kind = random.nextInt(100);
        if (kind < 40) {
            change();
        } else if (kind < 50) {
            text();
        } else if (kind < 70) {
            number();
        } else {
            mean();
        }
    }

    private void change() {
        int a;
        int b;
        int c;
        switch (random.nextInt(11)) {
            case 0: case 1:
                a = upTo(6);
                b = upTo(random.nextBoolean() ? 3 : 9);
                due("weigh(" + a + ", " + b + ")", shop.weigh(a, b), slow.weigh(a, b));
                break;
            case 2:
                a = upTo(4);
                b = upTo(a == 0 ? 99 : a == 3 ? 29 : 9);
                due("cost(" + a + ", " + b + ")", shop.cost(a, b), slow.cost(a, b));
                break;
            case 3: case 4:
                a = upTo(6);
                b = upTo(20);
                c = b + upTo(20 - Math.floorMod(b, 20));
                due("plan(" + a + ", " + b + ", " + c + ")", shop.plan(a, b, c), slow.plan(a, b, c));
                break;
            case 5:
                a = upTo(20);
                b = upTo(6);
                due("season(" + a + ", " + b + ")", shop.season(a, b), slow.season(a, b));
                break;
            case 6:
                a = upTo(20);
                due("order(" + a + ")", shop.order(a), slow.order(a));
                break;
            case 7:
                due("follow()", shop.follow(), slow.follow());
                break;
            case 8: case 9:
                a = upTo(6);
                due("sell(" + a + ")", shop.sell(a), slow.sell(a));
                break;
            default:
                due("undo()", shop.undo(), slow.undo());
        }
    }

    private void number() {
        int a;
        int b;
        switch (random.nextInt(3)) {
            case 0:
                a = upTo(3);
                b = upTo(6);
                due("setting(" + a + ", " + b + ")", shop.setting(a, b), slow.setting(a, b));
                break;
            case 1:
                a = upTo(6);
                b = upTo(3);
                due("saleAt(" + a + ", " + b + ")", shop.saleAt(a, b), slow.saleAt(a, b));
                break;
            default:
                a = upTo(11);
                due("count(" + a + ")", shop.count(a), slow.count(a));
        }
    }

    private void mean() {
        int stock = upTo(20);
        int left = upTo(6);
        int part = upTo(1);
        String of = "(" + stock + ", " + left + ", " + part + ")";
        switch (random.nextInt(80)) {
            case 0:
                pair(stock);
                break;
            case 1: case 2: case 3: case 4:
                due("least" + of, shop.least(stock, left, part), slow.least(stock, left, part));
                break;
            case 5: case 6: case 7: case 8:
                due("planned" + of, shop.planned(stock, left, part),
                        slow.planned(stock, left, part));
                break;
            case 9: case 10: case 11: case 12:
                due("regret" + of, shop.regret(stock, left, part), slow.regret(stock, left, part));
                break;
            case 13: case 14:
                due("levelValue" + of, shop.levelValue(stock, left, part),
                        slow.levelValue(stock, left, part));
                break;
            case 15: case 16: case 17:
                due("best" + of, shop.best(stock, left), slow.best(stock, left));
                break;
            case 18: case 19: case 20: case 21: case 22: case 23:
                int what = upTo(6);
                due("shape(" + left + ", " + what + ")", shop.shape(left, what),
                        slow.shape(left, what));
                break;
            default:
                change();
        }
    }

    private void pair(int stock) {
        int left = upTo(3);
        int what = upTo(3);
        due("bestPlan(" + stock + ", " + left + ", " + what + ")",
                shop.bestPlan(stock, left, what), slow.bestPlan(stock, left, what));
    }

    private void text() {
        switch (random.nextInt(4)) {
            case 0:
                wanted = someText();
                due("clearText()", shop.clearText(), slow.clearText());
                break;
            case 1:
                int character = random.nextInt(200) - 20;
                due("type(" + character + ")", shop.type(character), slow.type(character));
                break;
            default:
                askText();
        }
    }

    private void typeNext() {
        int sign = wanted.charAt(0);
        wanted = wanted.substring(1);
        due("type(" + sign + ")", shop.type(sign), slow.type(sign));
        if (wanted.isEmpty()) {
            askText();
        }
    }

    private void askText() {
        int what = upTo(1);
        due("fault(" + what + ")", shop.fault(what), slow.fault(what));
        due("fault(0)", shop.fault(0), slow.fault(0));
        due("fault(1)", shop.fault(1), slow.fault(1));
        due("play()", shop.play(), slow.play());
    }

    private String someText() {
        StringBuilder text = new StringBuilder();
        int commands = random.nextInt(9);
        if (random.nextBoolean()) {
            text.append("season ").append(random.nextInt(10)).append(" 0").append(6).append(';');
        }
        for (int i = 0; i < commands; i++) {
            int kind = random.nextInt(WORDS.length);
            text.append(WORDS[kind]);
            for (int k = 0; k < NUMBERS[kind]; k++) {
                int number = random.nextInt(NUMBER_ENDS[kind][k]);
                if (random.nextInt(40) == 0) {
                    number = random.nextInt(130);
                }
                boolean zero = number < 10 && random.nextInt(8) == 0;
                text.append(zero ? " 0" : " ").append(number);
            }
            text.append(';');
        }
        if (text.length() > 0 && random.nextInt(4) == 0) {
            int at = random.nextInt(text.length());
            switch (random.nextInt(3)) {
                case 0: text.setCharAt(at, (char) (32 + random.nextInt(95))); break;
                case 1: text.deleteCharAt(at); break;
                default: text.insert(at, " ;01s".charAt(random.nextInt(5)));
            }
        }
        return text.toString();
    }

    private void wholeState() {
        for (int what = 0; what < 12; what++) {
            due("count(" + what + ")", shop.count(what), slow.count(what));
        }
        for (int what = 0; what < 4; what++) {
            for (int index = 0; index < 7; index++) {
                due("setting(" + what + ", " + index + ")", shop.setting(what, index),
                        slow.setting(what, index));
                due("saleAt(" + index + ", " + what + ")", shop.saleAt(index, what),
                        slow.saleAt(index, what));
            }
        }
    }
}
