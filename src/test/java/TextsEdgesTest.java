/** The edges that "Texts" and promises 20 to 23 name, sentence by sentence. */
public final class TextsEdgesTest {
    private static final int INVALID = OrderLevels.INVALID_ARGUMENT;
    private static final int IMPOSSIBLE = OrderLevels.NOT_POSSIBLE;
    private static final int NONE = OrderLevels.NOT_FOUND;
    private static final int FORM = 1;
    private static final int RANGE = 2;
    private static final int OTHER = 3;

    private static final Checks CHECKS = new Checks();

    public static void main(String[] args) {
        eightyCharacters();
        emptyAtFirst();
        eachEnds();
        noWord();
        cutByTheEnd();
        oneBlank();
        wordsOfCommands();
        weightCommand();
        costCommand();
        seasonCommand();
        planCommand();
        orderCommand();
        followCommand();
        sellCommand();
        howManyNumbers();
        oneOrTwoDigits();
        zeroAhead();
        digitsAlone();
        positionFromZero();
        positionAtTheEnd();
        aheadAreDone();
        firstCommandCounts();
        formAheadOfRange();
        formAheadOfOther();
        rangeAheadOfOther();
        impossibleOtherwise();
        typeRange();
        typeLength();
        typeFull();
        clearLength();
        faultRange();
        faultNone();
        faultDoesNothing();
        playTextStays();
        playOneChange();
        playOfNone();
        playCommands();
        playWithFault();
        textAfterUndo();
        CHECKS.end("edges of texts");
    }

    private static void due(String call, long got, long want) {
        CHECKS.due(call, got, want);
    }

    private static void says(String sentence) {
        CHECKS.says(sentence);
    }

    private static OrderLevels fresh() {
        return new OrderLevels();
    }

    private static OrderLevels inSeason(int stock, int periods) {
        OrderLevels shop = new OrderLevels();
        shop.season(stock, periods);
        return shop;
    }

    private static void fault(OrderLevels shop, String text, int position, int reason) {
        CHECKS.write(shop, text);
        due("fault(0) of \"" + text + "\"", shop.fault(0), position);
        due("fault(1) of \"" + text + "\"", shop.fault(1), reason);
    }

    private static void fault(String text, int position, int reason) {
        fault(fresh(), text, position, reason);
    }

    private static void noFault(OrderLevels shop, String text) {
        fault(shop, text, NONE, NONE);
    }

    private static void noFault(String text) {
        noFault(fresh(), text);
    }

    /** No text of these has the form of a command, alone or behind another one. */
    private static void wrongForms(String... texts) {
        for (String text : texts) {
            fault(inSeason(0, 6), text, 0, FORM);
            fault(inSeason(0, 6), "cost 1 9;" + text, 9, FORM);
        }
    }

    private static void eightyCharacters() {
        says("There is a text of at most 80 characters");
        OrderLevels shop = fresh();
        String eighty = "cost 00 01;".repeat(7) + "   ";
        fault(shop, eighty, 77, FORM);
        due("count(11)", shop.count(11), 80);
        due("type(59) of the 81st", shop.type(';'), OrderLevels.LIMIT_REACHED);
        due("count(11) after an error", shop.count(11), 80);
        CHECKS.write(shop, "cost 0 5;".repeat(8) + "cost 0 8");
        due("fault(0) of a last \";\" that has no room", shop.fault(0), 72);
        noFault(shop, "cost 00 05;".repeat(4) + "cost 0 5;".repeat(4));
        due("count(11) of commands", shop.count(11), 80);
        due("play() of 80 characters", shop.play(), 8);
    }

    private static void emptyAtFirst() {
        says("initially empty");
        OrderLevels shop = fresh();
        due("count(11)", shop.count(11), 0);
        due("clearText()", shop.clearText(), 0);
        due("fault(0)", shop.fault(0), NONE);
        due("fault(1)", shop.fault(1), NONE);
        due("play()", shop.play(), 0);
    }

    private static void eachEnds() {
        says("commands, each followed by \";\"");
        wrongForms("cost 0 5", "follow", "sell 1", "order 1 ", "cost 0 5:", "cost 0 5,cost 0 6;",
                "cost 0 5cost 0 6;", ";", "cost 0 5 ;", "follow ;");
        fault("cost 0 5;;", 9, FORM);
        noFault("cost 0 5;cost 0 6;");
        noFault("cost 0 5;");
    }

    private static void noWord() {
        says("commands, .. of words with one blank between two: \"weight\" a demand and a weight");
        wrongForms(" 0 1;", " 1;", " 1 1 1;", "1;", "1 1;", "1 1 1;", " ;", "  ;", "00;");
    }

    /** Commands that take so many characters, of 9 to 11 each. */
    private static String costs(int length) {
        String[] commands = {"cost 0 5;", "cost 0 05;", "cost 00 05;"};
        StringBuilder text = new StringBuilder();
        for (int left = length / 9; left > 0; left--) {
            int more = length - text.length() - 9 * left;
            text.append(commands[Math.min(2, more)]);
        }
        return text.toString();
    }

    /** Each command, cut off at each place, at the end of a text of 80 characters. */
    private static void cutByTheEnd() {
        says("There is a text of at most 80 characters");
        String[] commands = {
            "weight 1;", "weight 0 1;", "cost 0 5;", "season 1 1;", "plan 1 1 1;", "order 1;", "follow;",
            "sell 1;",
        };
        for (String command : commands) {
            for (int signs = 1; signs < command.length(); signs++) {
                int ahead = 80 - signs;
                String text = costs(ahead) + command.substring(0, signs);
                OrderLevels shop = inSeason(0, 6);
                due("characters of \"" + text + "\"", text.length(), 80);
                fault(shop, text, ahead, FORM);
                due("play() of \"" + text + "\"", shop.play(), IMPOSSIBLE);
            }
        }
    }

    private static void oneBlank() {
        says("of words with one blank between two");
        wrongForms("cost  0 5;", "cost 0  5;", "cost0 5;", "cost 05;", " cost 0 5;", "cost 0 5 ;",
                "order5;", "order  5;", "sell_1;", "plan 1 2  3;", "plan 1 23;", " ", "follow ;");
        fault("cost 0 5; cost 0 5;", 9, FORM);
        fault("cost 0 5; ", 9, FORM);
        noFault("plan 1 2 3;");
    }

    private static void wordsOfCommands() {
        says("\"weight\" a demand and a weight, \"cost\" which one and a value, \"season\" a stock and"
                + " periods, \"plan\" periods left, a low and a high level, \"order\" a level, \"follow\"");
        wrongForms("Weight 0 1;", "weigh 0 1;", "weights 0 1;", "COST 0 1;", "costs 0 1;", "cos 0 1;",
                "seasons 1 1;", "seaso 1 1;", "plans 1 1 1;", "pla 1 1 1;", "orders 1;", "orde 1;",
                "follows;", "follo;", "sells 1;", "sel 1;", "undo;", "clear;", "type 1;", "count 1;",
                "0 1;", "x", "~");
    }

    private static void weightCommand() {
        says("\"weight\" a demand and a weight");
        OrderLevels shop = fresh();
        CHECKS.write(shop, "weight 6 9;weight 0 3;");
        due("play()", shop.play(), 2);
        due("setting(0, 6)", shop.setting(0, 6), 9);
        due("setting(0, 0)", shop.setting(0, 0), 3);
        fault("weight 7 1;", 0, RANGE);
        fault("weight 0 10;", 0, RANGE);
        fault("weight 0 0;", 0, OTHER);
        fault("weight 1 9;weight 2 3;", 11, OTHER);
        noFault("weight 1 9;weight 2 2;");
    }

    private static void costCommand() {
        says("\"cost\" which one and a value");
        int[] most = {99, 9, 9, 29, 9};
        for (int what = 0; what <= 4; what++) {
            OrderLevels shop = fresh();
            CHECKS.write(shop, "cost " + what + " " + most[what] + ";");
            due("play()", shop.play(), 1);
            due("setting(1, " + what + ")", shop.setting(1, what), most[what]);
            noFault("cost " + what + " 0;");
            fault("cost " + what + " " + (most[what] + 1) + ";", 0, what == 0 ? FORM : RANGE);
        }
        fault("cost 5 0;", 0, RANGE);
    }

    private static void seasonCommand() {
        says("\"season\" a stock and periods");
        OrderLevels shop = fresh();
        CHECKS.write(shop, "season 20 1;");
        due("play()", shop.play(), 1);
        due("count(0)", shop.count(0), 20);
        due("count(1)", shop.count(1), 1);
        noFault("season 0 6;");
        fault("season 21 6;", 0, RANGE);
        fault("season 0 7;", 0, RANGE);
        fault("season 0 0;", 0, RANGE);
    }

    private static void planCommand() {
        says("\"plan\" periods left, a low and a high level");
        OrderLevels shop = fresh();
        CHECKS.write(shop, "plan 6 1 20;plan 1 20 20;plan 2 0 0;");
        due("play()", shop.play(), 3);
        due("setting(2, 6)", shop.setting(2, 6), 1);
        due("setting(3, 6)", shop.setting(3, 6), 20);
        due("setting(2, 1)", shop.setting(2, 1), 20);
        fault("plan 0 1 2;", 0, RANGE);
        fault("plan 7 1 2;", 0, RANGE);
        fault("plan 1 21 21;", 0, RANGE);
        fault("plan 1 1 21;", 0, RANGE);
        fault("plan 1 2 1;", 0, RANGE);
    }

    private static void orderCommand() {
        says("\"order\" a level");
        OrderLevels shop = inSeason(3, 1);
        CHECKS.write(shop, "order 20;");
        due("play()", shop.play(), 1);
        due("count(0)", shop.count(0), 20);
        due("count(4)", shop.count(4), 1);
        noFault(inSeason(3, 1), "order 3;");
        noFault(inSeason(0, 1), "order 0;");
        fault(inSeason(3, 1), "order 21;", 0, RANGE);
        fault(inSeason(3, 1), "order 2;", 0, OTHER);
    }

    private static void followCommand() {
        says("\"follow\" (the plan is followed)");
        OrderLevels shop = inSeason(3, 2);
        shop.plan(2, 4, 9);
        CHECKS.write(shop, "follow;sell 6;follow;");
        due("play()", shop.play(), 3);
        due("count(0)", shop.count(0), 3);
        due("count(2)", shop.count(2), 1);
        due("count(4)", shop.count(4), 1);
        fault(inSeason(3, 1), "follow;follow;", 7, OTHER);
    }

    private static void sellCommand() {
        says("or \"sell\" a demand");
        OrderLevels shop = inSeason(3, 2);
        CHECKS.write(shop, "sell 6;sell 0;");
        due("play()", shop.play(), 2);
        due("count(6)", shop.count(6), 3);
        due("count(7)", shop.count(7), 3);
        fault(inSeason(3, 2), "sell 7;", 0, RANGE);
        fault(inSeason(3, 2), "sell 0;sell 6;sell 1;", 14, OTHER);
    }

    private static void howManyNumbers() {
        says("of words with one blank between two");
        wrongForms("weight;", "weight 1;", "weight 1 2 3;", "cost;", "cost 1;", "cost 1 2 3;",
                "season;", "season 1;", "season 1 2 3;", "plan;", "plan 1;", "plan 1 2;",
                "plan 1 2 3 4;", "order;", "order 1 2;", "follow 1;", "follow 0;", "sell;",
                "sell 1 2;", "weight ;", "cost 1 ;", "plan 1 2 ;", "order ;", "sell ;");
    }

    private static void oneOrTwoDigits() {
        says("numbers have one or two digits");
        wrongForms("cost 0 100;", "cost 000 1;", "order 100;", "order 020;", "sell 001;",
                "season 005 1;", "season 5 001;", "plan 1 000 5;", "plan 1 0 005;", "weight 001 1;",
                "order 1000000000000000;");
        noFault("cost 0 9;");
        noFault("cost 0 10;");
        noFault("cost 0 99;");
        noFault(inSeason(0, 1), "order 9;");
        noFault(inSeason(0, 1), "order 10;");
    }

    private static void zeroAhead() {
        says("0 ahead allowed");
        OrderLevels shop = fresh();
        CHECKS.write(shop, "weight 06 09;cost 03 08;season 00 06;plan 06 01 02;follow;sell 00;");
        due("play()", shop.play(), 6);
        due("setting(0, 6)", shop.setting(0, 6), 9);
        due("setting(1, 3)", shop.setting(1, 3), 8);
        due("setting(2, 6)", shop.setting(2, 6), 1);
        due("count(0)", shop.count(0), 2);
        due("count(1)", shop.count(1), 5);
        fault("cost 05 01;", 0, RANGE);
        fault("sell 07;", 0, RANGE);
        noFault(inSeason(0, 1), "order 08;");
    }

    private static void digitsAlone() {
        says("numbers have one or two digits");
        wrongForms("cost -1 5;", "cost 0 -1;", "cost +1 5;", "cost 0 +5;", "cost a 5;", "cost 0 a;",
                "cost 0 5a;", "cost 0 1.;", "cost 0 /;", "cost 0 :;", "cost 0 1/;", "cost 0 1:;",
                "order 1_;", "sell O;");
    }

    private static void positionFromZero() {
        says("The fault of the text is the position, from 0, of the first character of the first"
                + " command that is not possible");
        fault("x", 0, FORM);
        fault("sell 1;", 0, OTHER);
        fault("cost 5 5;", 0, RANGE);
        fault("cost 0 5;x", 9, FORM);
        fault("cost 0 5;sell 1;", 9, OTHER);
        fault("cost 0 05;cost 00 05;cost 5 5;", 21, RANGE);
        // Its first character, also if the wrong one stands behind that.
        fault("cost 0 5;weight 1 x;", 9, FORM);
    }

    private static void positionAtTheEnd() {
        says("The fault of the text is the position, from 0, of the first character");
        String ahead = "cost 0 5;".repeat(7);
        fault(ahead + "weight 00 01;sel", 76, FORM);
        fault(ahead + "weight 00 01;" + "    ", 76, FORM);
        fault(ahead + "cost 00 05;order", 74, FORM);
        fault(inSeason(0, 6), "cost 0 5;".repeat(8) + "sell 1;x", 79, FORM);
        fault(inSeason(0, 6), "cost 0 5;".repeat(8) + "sell 1;;", 79, FORM);
        fault(fresh(), "cost 0 5;".repeat(8) + "sell 01;", 72, OTHER);
        noFault(inSeason(0, 6), "cost 0 5;".repeat(8) + "sell 01;");
    }

    private static void aheadAreDone() {
        says("when those ahead of it are done");
        noFault("season 0 1;order 5;sell 5;");
        fault("order 5;season 0 1;", 0, OTHER);
        fault("season 4 1;order 3;", 11, OTHER);
        noFault("season 4 1;sell 2;season 3 1;order 3;");
        noFault("weight 5 1;weight 0 0;");
        fault("weight 0 0;weight 5 1;", 0, OTHER);
        noFault("weight 5 9;weight 0 0;weight 4 3;");
        fault("weight 5 9;weight 4 3;weight 0 0;", 11, OTHER);
        noFault("plan 1 5 9;season 4 2;sell 0;follow;");
        fault("plan 1 5 9;season 4 2;sell 0;follow;order 9;", 36, OTHER);
        fault("season 0 1;sell 0;order 0;", 18, OTHER);
    }

    private static void firstCommandCounts() {
        says("of the first command that is not possible");
        fault("cost 0 5;sell 1;cost 5 5;x", 9, OTHER);
        fault("cost 0 5;cost 5 5;sell 1;x", 9, RANGE);
        fault("cost 0 5;x;sell 1;cost 5 5;", 9, FORM);
        fault("sell 1;season 0 1;sell 1;", 0, OTHER);
    }

    private static void formAheadOfRange() {
        says("1 it is not of this form, its \";\" included, 2 an argument is out of its range");
        fault("cost 5 5", 0, FORM);
        fault("cost 9 5,", 0, FORM);
        fault("weight 7 1 ;", 0, FORM);
        fault("order 21", 0, FORM);
        fault("sell 7 ", 0, FORM);
        fault("plan 9 9 8", 0, FORM);
        fault("season 99 99 ;", 0, FORM);
    }

    private static void formAheadOfOther() {
        says("1 it is not of this form, its \";\" included, .. 3 it is not possible otherwise");
        fault("follow", 0, FORM);
        fault("sell 1", 0, FORM);
        fault("order 1", 0, FORM);
        fault("weight 0 0", 0, FORM);
        fault("season 4 1;order 3.", 11, FORM);
    }

    private static void rangeAheadOfOther() {
        says("2 an argument is out of its range, 3 it is not possible otherwise");
        fault("order 21;", 0, RANGE);
        fault("order 99;", 0, RANGE);
        fault("sell 7;", 0, RANGE);
        fault("sell 99;", 0, RANGE);
        fault("weight 1 9;weight 2 10;", 11, RANGE);
        fault("weight 7 0;", 0, RANGE);
        fault("season 4 1;order 4;order 21;", 19, RANGE);
    }

    private static void impossibleOtherwise() {
        says("3 it is not possible otherwise");
        fault("order 0;", 0, OTHER);
        fault("follow;", 0, OTHER);
        fault("sell 0;", 0, OTHER);
        fault("weight 0 0;", 0, OTHER);
        fault("weight 6 9;weight 0 4;", 11, OTHER);
        fault(inSeason(1, 6), "order 0;", 0, OTHER);
        fault(inSeason(1, 6), "order 1;order 1;", 8, OTHER);
        fault(inSeason(1, 6), "order 1;follow;", 8, OTHER);
        fault(inSeason(1, 6), "follow;order 2;", 7, OTHER);
        fault(inSeason(1, 1), "sell 0;follow;", 7, OTHER);
    }

    private static void typeRange() {
        says("`character`: 32 to 126");
        CHECKS.range("the character of type", 32, 126, character -> fresh().type(character));
    }

    private static void typeLength() {
        says("Returns the length of the text");
        OrderLevels shop = fresh();
        for (int length = 1; length <= 80; length++) {
            due("type of " + length, shop.type(length % 2 == 0 ? 32 : 126), length);
            due("type(127)", shop.type(127), INVALID);
        }
    }

    private static OrderLevels full() {
        OrderLevels shop = fresh();
        for (int length = 1; length <= 80; length++) {
            shop.type('a');
        }
        return shop;
    }

    private static void typeFull() {
        says("LIMIT_REACHED if it has 80 characters");
        OrderLevels shop = full();
        due("type(32)", shop.type(32), OrderLevels.LIMIT_REACHED);
        due("type(126)", shop.type(126), OrderLevels.LIMIT_REACHED);
        due("type(31)", shop.type(31), INVALID);
        due("type(127)", shop.type(127), INVALID);
        due("count(11)", shop.count(11), 80);
        shop.clearText();
        due("type(32) after clearText", shop.type(32), 1);
    }

    private static void clearLength() {
        says("Returns the length it had.");
        OrderLevels shop = full();
        due("clearText() of 80", shop.clearText(), 80);
        due("clearText() of none", shop.clearText(), 0);
        shop.type('x');
        due("clearText() of 1", shop.clearText(), 1);
        due("count(11)", shop.count(11), 0);
    }

    private static void faultRange() {
        says("INVALID_ARGUMENT if what is out of range");
        CHECKS.range("the what of fault", 0, 1, what -> fresh().fault(what));
        CHECKS.range("the what of fault in a text", 0, 1, what -> full().fault(what));
    }

    private static void faultNone() {
        says("NOT_FOUND if the text has no fault (also if it is empty)");
        noFault("");
        noFault("cost 0 5;");
        OrderLevels shop = full();
        due("fault(1) of a faulty text", shop.fault(1), FORM);
        shop.clearText();
        due("fault(0) of an emptied text", shop.fault(0), NONE);
        due("fault(1) of an emptied text", shop.fault(1), NONE);
        // What stood there is gone: the rest of it does not make a command whole.
        fault(shop, "cost 0 5;cost 0 6;", NONE, NONE);
        fault(shop, "cost 0 5;cost 0", 9, FORM);
        fault(shop, "cost 0 5;", NONE, NONE);
    }

    private static void faultDoesNothing() {
        says("Tells about the fault of the text.");
        String[] texts = {
            "weight 3 3;cost 0 7;season 6 3;plan 3 7 9;follow;sell 4;order 8;", "season 6 3;sell 4;x",
            "",
        };
        for (String text : texts) {
            OrderLevels shop = inSeason(2, 5);
            OrderLevels other = inSeason(2, 5);
            CHECKS.write(shop, text);
            CHECKS.write(other, text);
            int position = shop.fault(0);
            due("fault(0) again", shop.fault(0), position);
            shop.fault(1);
            shop.fault(2);
            CHECKS.same("fault of \"" + text + "\"", shop, other);
        }
    }

    private static void playTextStays() {
        says("Does all commands of the text, which stays.");
        OrderLevels shop = fresh();
        CHECKS.write(shop, "season 6 3;sell 4;");
        due("play()", shop.play(), 2);
        due("count(11)", shop.count(11), 18);
        due("play() again", shop.play(), 2);
        due("count(9)", shop.count(9), 2);
        due("type(120)", shop.type('x'), 19);
        due("play() with a fault", shop.play(), IMPOSSIBLE);
        due("fault(0)", shop.fault(0), 18);
    }

    private static void playOneChange() {
        says("They are one change");
        OrderLevels shop = fresh();
        CHECKS.write(shop, "cost 0 1;cost 0 2;cost 0 3;cost 0 4;cost 0 6;season 3 1;order 9;sell 6;");
        due("play()", shop.play(), 8);
        due("count(10)", shop.count(10), 1);
        due("undo()", shop.undo(), 0);
        CHECKS.write(shop, "");
        CHECKS.same("play and undo", shop, fresh());
    }

    private static void playOfNone() {
        says("also if there are none");
        OrderLevels shop = fresh();
        for (int plays = 1; plays <= 6; plays++) {
            due("play() of an empty text", shop.play(), 0);
            due("count(10)", shop.count(10), plays < 4 ? plays : 4);
        }
        for (int left = 3; left >= 0; left--) {
            due("undo()", shop.undo(), left);
        }
        due("undo() of none", shop.undo(), IMPOSSIBLE);
    }

    private static void playCommands() {
        says("Returns how many there are in it");
        OrderLevels shop = inSeason(20, 6);
        CHECKS.write(shop, "sell 1;");
        due("play() of one", shop.play(), 1);
        shop.season(20, 6);
        CHECKS.write(shop, "follow;sell 6;".repeat(5) + "sell 6;");
        due("play() of eleven", shop.play(), 11);
        due("count(1)", shop.count(1), 0);
        due("count(11)", shop.count(11), 77);
    }

    private static void playWithFault() {
        says("NOT_POSSIBLE if it has a fault");
        String[] texts = {
            "x", "cost 0 7", "cost 0 7;weight 3 3;season 3 2;sell 1;sell 1;sell 1;",
            "cost 0 7;plan 1 2 3;order 99;", "cost 0 7;follow;", "cost 0 7; ",
        };
        for (String text : texts) {
            OrderLevels shop = fresh();
            OrderLevels other = fresh();
            CHECKS.write(shop, text);
            CHECKS.write(other, text);
            due("play() of \"" + text + "\"", shop.play(), IMPOSSIBLE);
            CHECKS.same("play of \"" + text + "\"", shop, other);
        }
    }

    private static void textAfterUndo() {
        says("each change records everything before it but the text");
        OrderLevels shop = fresh();
        shop.type('a');
        shop.cost(0, 9);
        shop.type('b');
        due("undo()", shop.undo(), 0);
        due("count(11), the text stays", shop.count(11), 2);
        shop.cost(0, 9);
        shop.clearText();
        due("undo()", shop.undo(), 0);
        due("count(11) of an emptied text", shop.count(11), 0);
    }
}
