import java.util.function.IntToLongFunction;

/** Counts what a test finds wrong and tells it. */
final class Checks {
    private int wrong;
    private int made;
    private String sentence = "";

    /** The sentence of the document that the next answers are due by. */
    void says(String sentence) {
        this.sentence = " (\"" + sentence + "\")";
    }

    void due(String call, long got, long want) {
        made++;
        if (got != want) {
            wrong++;
            System.out.println(call + " answered " + got + ", due is " + want + sentence);
        }
    }

    /** Types a text in place of the one that there is. */
    void write(OrderLevels shop, String text) {
        shop.clearText();
        for (int i = 0; i < text.length(); i++) {
            due("type in \"" + text + "\"", shop.type(text.charAt(i)), i + 1);
        }
    }

    /** An argument is in its range from the least number to the most one, and nowhere else. */
    void range(String argument, int least, int most, IntToLongFunction call) {
        for (int number = least; number <= most; number++) {
            inRange(argument, number, call.applyAsLong(number), false);
        }
        int[] beyond = {
            least - 1, most + 1, least - 100, most + 100, least - 256, most + 256, least - 65536,
            most + 65536, Integer.MIN_VALUE, Integer.MAX_VALUE,
        };
        for (int number : beyond) {
            inRange(argument, number, call.applyAsLong(number), true);
        }
    }

    private void inRange(String argument, int number, long got, boolean out) {
        boolean refused = got == OrderLevels.INVALID_ARGUMENT;
        due(argument + " " + number + " is out of range", refused ? 1 : 0, out ? 1 : 0);
    }

    /** Two objects tell the same, now and after each undo. Their histories are used up by it. */
    void same(String call, OrderLevels one, OrderLevels other) {
        for (int undone = 0; undone < 5; undone++) {
            long[] got = Shops.state(one);
            long[] want = Shops.state(other);
            for (int i = 0; i < want.length; i++) {
                due(call + ", number " + i + " of the state after " + undone + " undo", got[i],
                        want[i]);
            }
            due(call + ", undo", one.undo(), other.undo());
        }
    }

    void end(String name) {
        System.out.println(name + ": " + made + " answers, " + wrong + " not as due");
        if (wrong != 0) {
            System.exit(1);
        }
    }
}
