/** Objects that are made for tests, and looked at as a whole. */
final class Shops {
    private Shops() {
    }

    /** A shop with seven weights and five costs, and nothing else changed. */
    static OrderLevels of(int... settings) {
        OrderLevels shop = new OrderLevels();
        for (int turn = 0; turn < 2; turn++) {
            // The second turn sets what the first could not, as the sum was above 12.
            for (int demand = 6; demand >= 0; demand--) {
                shop.weigh(demand, settings[demand]);
            }
        }
        for (int what = 0; what < 5; what++) {
            shop.cost(what, settings[7 + what]);
        }
        return shop;
    }

    /** All that an object tells of its state without a change. */
    static long[] state(OrderLevels shop) {
        long[] told = new long[12 + 7 + 5 + 12 + 24 + 2];
        int at = 0;
        for (int what = 0; what <= 11; what++) {
            told[at++] = shop.count(what);
        }
        for (int demand = 0; demand <= 6; demand++) {
            told[at++] = shop.setting(0, demand);
        }
        for (int what = 0; what <= 4; what++) {
            told[at++] = shop.setting(1, what);
        }
        for (int periods = 1; periods <= 6; periods++) {
            told[at++] = shop.setting(2, periods);
            told[at++] = shop.setting(3, periods);
        }
        for (int index = 0; index < 6; index++) {
            for (int what = 0; what <= 3; what++) {
                told[at++] = shop.saleAt(index, what);
            }
        }
        told[at++] = shop.fault(0);
        told[at++] = shop.fault(1);
        return told;
    }
}
