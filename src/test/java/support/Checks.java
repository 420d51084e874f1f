/** Counts what a test finds wrong and tells it. */
final class Checks {
    private int wrong;
    private int made;

    void due(String call, long got, long want) {
        made++;
        if (got != want) {
            wrong++;
            System.out.println(call + " answered " + got + ", due is " + want);
        }
    }

    /** Types a text in place of the one that there is. */
    void write(OrderLevels shop, String text) {
        shop.clearText();
        for (int i = 0; i < text.length(); i++) {
            due("type in \"" + text + "\"", shop.type(text.charAt(i)), i + 1);
        }
    }

    void end(String name) {
        System.out.println(name + ": " + made + " answers, " + wrong + " not as due");
        if (wrong != 0) {
            System.exit(1);
        }
    }
}
