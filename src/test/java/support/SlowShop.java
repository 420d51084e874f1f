import java.util.ArrayDeque;
import java.util.ArrayList;
import java.util.Deque;
import java.util.HashSet;
import java.util.List;
import java.util.Set;
import java.util.regex.Matcher;
import java.util.regex.Pattern;

/**
 * The document once more, written slowly and by other means than the class: fractions instead of
 * whole rows, the plan's cost by the ways that stocks go forward, texts by patterns, and copies of
 * whole states. Tests compare the class with it.
 */
final class SlowShop {
    static final int INVALID = -1000001;
    static final int IMPOSSIBLE = -1000002;
    static final int LIMIT = -1000003;
    static final int NONE = -1000004;

    private static final int[] MOST = {99, 9, 9, 29, 9};
    private static final String NUMBER = " ([0-9]{1,2})";
    private static final String[][] COMMANDS = {
        {"weight", "2"}, {"cost", "2"}, {"season", "2"}, {"plan", "3"}, {"order", "1"},
        {"follow", "0"}, {"sell", "1"},
    };

    private static final class State {
        int[] weights = {1, 0, 0, 0, 0, 0, 0};
        int[] costs = {5, 1, 1, 4, 0};
        int[][] plan = new int[7][2];
        int stock;
        int left;
        boolean ordered;
        int[] counts = new int[10];
        List<int[]> sales = new ArrayList<>();

        State copy() {
            State copy = new State();
            copy.weights = weights.clone();
            copy.costs = costs.clone();
            for (int i = 0; i < plan.length; i++) {
                copy.plan[i] = plan[i].clone();
            }
            copy.stock = stock;
            copy.left = left;
            copy.ordered = ordered;
            copy.counts = counts.clone();
            copy.sales = new ArrayList<>(sales);
            return copy;
        }

        int sum() {
            int sum = 0;
            for (int weight : weights) {
                sum += weight;
            }
            return sum;
        }
    }

    /** How a level is chosen from a stock with some periods left. */
    private interface Way {
        int level(int stock, int left);
    }

    private State now = new State();
    private final Deque<State> history = new ArrayDeque<>();
    private String text = "";

    private static boolean in(int number, int least, int most) {
        return least <= number && number <= most;
    }

    // ---- changes

    private int change(String command, int... numbers) {
        State before = now.copy();
        int answer = act(command, numbers);
        if (answer >= 0) {
            remember(before);
        } else {
            now = before;
        }
        return answer;
    }

    private void remember(State state) {
        history.addFirst(state);
        if (history.size() == 5) {
            history.removeLast();
        }
    }

    private int act(String command, int... n) {
        switch (command) {
            case "weight": return doWeigh(n[0], n[1]);
            case "cost": return doCost(n[0], n[1]);
            case "plan": return doPlan(n[0], n[1], n[2]);
            case "season": return doSeason(n[0], n[1]);
            case "order": return doOrder(n[0]);
            case "follow": return doFollow();
            case "sell": return doSell(n[0]);
            default: throw new IllegalArgumentException(command);
        }
    }

    int weigh(int demand, int weight) { return change("weight", demand, weight); }

    int cost(int what, int value) { return change("cost", what, value); }

    int plan(int left, int low, int high) { return change("plan", left, low, high); }

    int season(int stock, int left) { return change("season", stock, left); }

    int order(int level) { return change("order", level); }

    int follow() { return change("follow"); }

    int sell(int demand) { return change("sell", demand); }

    private int doWeigh(int demand, int weight) {
        if (!in(demand, 0, 6) || !in(weight, 0, 9)) {
            return INVALID;
        }
        now.weights[demand] = weight;
        return now.sum() == 0 ? IMPOSSIBLE : now.sum() > 12 ? LIMIT : now.sum();
    }

    private int doCost(int what, int value) {
        if (!in(what, 0, 4) || !in(value, 0, MOST[what])) {
            return INVALID;
        }
        int was = now.costs[what];
        now.costs[what] = value;
        return was;
    }

    private int doPlan(int left, int low, int high) {
        if (!in(left, 1, 6) || !in(low, 0, 20) || !in(high, low, 20)) {
            return INVALID;
        }
        int[] was = now.plan[left];
        now.plan[left] = new int[] {low, high};
        return 100 * was[0] + was[1];
    }

    private int doSeason(int stock, int left) {
        if (!in(stock, 0, 20) || !in(left, 1, 6)) {
            return INVALID;
        }
        int was = now.left;
        now.stock = stock;
        now.left = left;
        now.ordered = false;
        return was;
    }

    private int doOrder(int level) {
        if (!in(level, 0, 20)) {
            return INVALID;
        }
        if (now.left == 0 || level < now.stock || now.ordered) {
            return IMPOSSIBLE;
        }
        int pieces = level - now.stock;
        int paid = pieces == 0 ? 0 : now.costs[0] + pieces * now.costs[1];
        now.counts[4] += pieces == 0 ? 0 : 1;
        now.counts[5] += pieces;
        now.counts[8] += paid;
        now.stock = level;
        now.ordered = true;
        return paid;
    }

    private int doFollow() {
        if (now.left == 0 || now.ordered) {
            return IMPOSSIBLE;
        }
        int[] levels = now.plan[now.left];
        doOrder(now.stock < levels[0] ? levels[1] : now.stock);
        return now.stock;
    }

    private int doSell(int demand) {
        if (!in(demand, 0, 6)) {
            return INVALID;
        }
        if (now.left == 0) {
            return IMPOSSIBLE;
        }
        int sold = 0;
        int lost = 0;
        int rest = now.stock;
        for (int piece = 0; piece < demand; piece++) {
            if (rest > 0) {
                rest--;
                sold++;
            } else {
                lost++;
            }
        }
        now.sales.add(0, new int[] {demand, sold, now.stock, now.left});
        now.counts[6] += sold;
        now.counts[7] += lost;
        now.counts[8] += rest * now.costs[2] + lost * now.costs[3];
        now.counts[8] += now.left == 1 ? rest * now.costs[4] : 0;
        now.counts[9]++;
        now.stock = rest;
        now.left--;
        now.ordered = false;
        return sold;
    }

    int undo() {
        if (history.isEmpty()) {
            return IMPOSSIBLE;
        }
        now = history.removeFirst();
        return history.size();
    }

    // ---- numbers

    int setting(int what, int index) {
        if (what == 0 && in(index, 0, 6)) {
            return now.weights[index];
        }
        if (what == 1 && in(index, 0, 4)) {
            return now.costs[index];
        }
        if (in(what, 2, 3) && in(index, 1, 6)) {
            return now.plan[index][what - 2];
        }
        return INVALID;
    }

    int saleAt(int index, int what) {
        if (index < 0 || !in(what, 0, 3)) {
            return INVALID;
        }
        return index < 6 && index < now.sales.size() ? now.sales.get(index)[what] : NONE;
    }

    int count(int what) {
        switch (what) {
            case 0: return now.stock;
            case 1: return now.left;
            case 2: return now.ordered ? 1 : 0;
            case 3: return now.sum();
            case 10: return history.size();
            case 11: return text.length();
            default: return in(what, 4, 9) ? now.counts[what] : INVALID;
        }
    }

    // ---- means

    private Fraction chance(int demand) {
        return Fraction.of(now.weights[demand], now.sum());
    }

    private long afterOrder(int level, int demand) {
        int rest = Math.max(level - demand, 0);
        int lost = Math.max(demand - level, 0);
        return (long) rest * now.costs[2] + (long) lost * now.costs[3];
    }

    private long orderCost(int stock, int level) {
        return level == stock ? 0 : now.costs[0] + (long) (level - stock) * now.costs[1];
    }

    /** The mean cost of a level in this period and of the best way behind it, without ordering. */
    private Fraction fromLevel(int level, int left, Fraction[][] least) {
        Fraction sum = Fraction.of(0);
        for (int demand = 0; demand <= 6; demand++) {
            if (now.weights[demand] == 0) {
                continue;
            }
            Fraction cost = Fraction.of(afterOrder(level, demand))
                    .plus(least[left - 1][Math.max(level - demand, 0)]);
            sum = sum.plus(chance(demand).times(cost));
        }
        return sum;
    }

    private Fraction[][] leastCosts(int left, int[][] levels) {
        Fraction[][] least = new Fraction[left + 1][21];
        for (int stock = 0; stock <= 20; stock++) {
            least[0][stock] = Fraction.of((long) now.costs[4] * stock);
        }
        for (int n = 1; n <= left; n++) {
            Fraction[] behind = new Fraction[21];
            for (int level = 0; level <= 20; level++) {
                behind[level] = fromLevel(level, n, least);
            }
            for (int stock = 0; stock <= 20; stock++) {
                for (int level = 20; level >= stock; level--) {
                    Fraction cost = behind[level].plus(Fraction.of(orderCost(stock, level)));
                    if (least[n][stock] == null || cost.compareTo(least[n][stock]) <= 0) {
                        least[n][stock] = cost;
                        levels[n][stock] = level;
                    }
                }
            }
        }
        return least;
    }

    /** The mean cost by a way, from the chances of each stock in each period. */
    private Fraction forward(int stock, int left, Way way) {
        Fraction[] chances = new Fraction[21];
        chances[stock] = Fraction.of(1);
        Fraction sum = Fraction.of(0);
        for (int n = left; n > 0; n--) {
            Fraction[] next = new Fraction[21];
            for (int at = 0; at <= 20; at++) {
                if (chances[at] == null) {
                    continue;
                }
                int level = way.level(at, n);
                sum = sum.plus(chances[at].times(Fraction.of(orderCost(at, level))));
                for (int demand = 0; demand <= 6; demand++) {
                    if (now.weights[demand] == 0) {
                        continue;
                    }
                    Fraction chance = chances[at].times(chance(demand));
                    int rest = Math.max(level - demand, 0);
                    sum = sum.plus(chance.times(Fraction.of(afterOrder(level, demand))));
                    next[rest] = next[rest] == null ? chance : next[rest].plus(chance);
                }
            }
            chances = next;
        }
        for (int at = 0; at <= 20; at++) {
            if (chances[at] != null) {
                sum = sum.plus(chances[at].times(Fraction.of((long) at * now.costs[4])));
            }
        }
        return sum;
    }

    private Fraction leastOf(int stock, int left) {
        return leastCosts(left, new int[7][21])[left][stock];
    }

    private Fraction plannedOf(int stock, int left) {
        return forward(stock, left, (at, n) -> at < now.plan[n][0] ? now.plan[n][1] : at);
    }

    private static boolean meanArguments(int stock, int left, int firstLeft, int part) {
        return in(stock, 0, 20) && in(left, firstLeft, 6) && in(part, 0, 1);
    }

    long least(int stock, int left, int part) {
        return meanArguments(stock, left, 0, part) ? leastOf(stock, left).part(part) : INVALID;
    }

    int best(int stock, int left) {
        if (!meanArguments(stock, left, 1, 0)) {
            return INVALID;
        }
        int[][] levels = new int[7][21];
        leastCosts(left, levels);
        return levels[left][stock];
    }

    long planned(int stock, int left, int part) {
        return meanArguments(stock, left, 0, part) ? plannedOf(stock, left).part(part) : INVALID;
    }

    long regret(int stock, int left, int part) {
        return meanArguments(stock, left, 0, part)
                ? plannedOf(stock, left).minus(leastOf(stock, left)).part(part) : INVALID;
    }

    private Fraction[] levelFunction(int left) {
        Fraction[][] least = leastCosts(left, new int[7][21]);
        Fraction[] values = new Fraction[21];
        for (int level = 0; level <= 20; level++) {
            values[level] = Fraction.of((long) now.costs[1] * level)
                    .plus(fromLevel(level, left, least));
        }
        return values;
    }

    long levelValue(int level, int left, int part) {
        return meanArguments(level, left, 1, part) ? levelFunction(left)[level].part(part) : INVALID;
    }

    int shape(int left, int what) {
        if (!in(left, 1, 6) || !in(what, 0, 6)) {
            return INVALID;
        }
        Fraction[] values = levelFunction(left);
        int[][] levels = new int[7][21];
        leastCosts(left, levels);
        int lowest = 20;
        int greatest = NONE;
        Set<Integer> unlike = new HashSet<>();
        List<Integer> convexity = new ArrayList<>();
        List<Integer> gaps = new ArrayList<>();
        for (int level = 20; level >= 0; level--) {
            lowest = values[level].compareTo(values[lowest]) <= 0 ? level : lowest;
        }
        for (int stock = 0; stock <= 20; stock++) {
            boolean orders = levels[left][stock] != stock;
            if (orders) {
                greatest = stock;
                unlike.add(levels[left][stock]);
            }
            if (orders && stock > 0 && levels[left][stock - 1] == stock - 1) {
                gaps.add(stock);
            }
            if (in(stock, 1, 19) && values[stock].compareTo(Fraction.of(1, 2)
                    .times(values[stock - 1].plus(values[stock + 1]))) > 0) {
                convexity.add(stock);
            }
        }
        switch (what) {
            case 0: return lowest;
            case 1: return greatest;
            case 2: return convexity.size();
            case 3: return convexity.isEmpty() ? NONE : convexity.get(0);
            case 4: return gaps.size();
            case 5: return gaps.isEmpty() ? NONE : gaps.get(0);
            default: return unlike.size();
        }
    }

    long bestPlan(int stock, int left, int what) {
        if (!in(stock, 0, 20) || !in(left, 1, 3) || !in(what, 0, 3)) {
            return INVALID;
        }
        Fraction least = null;
        int lowest = 0;
        int highest = 0;
        for (int low = 20; low >= 0; low--) {
            for (int high = 20; high >= low; high--) {
                int from = low;
                int to = high;
                Fraction cost = forward(stock, left, (at, n) -> at < from ? to : at);
                if (least == null || cost.compareTo(least) <= 0) {
                    least = cost;
                    lowest = low;
                    highest = high;
                }
            }
        }
        return what == 0 ? lowest : what == 1 ? highest : least.part(what - 2);
    }

    // ---- texts

    int type(int character) {
        if (!in(character, 32, 126)) {
            return INVALID;
        }
        if (text.length() == 80) {
            return LIMIT;
        }
        text += (char) character;
        return text.length();
    }

    int clearText() {
        int was = text.length();
        text = "";
        return was;
    }

    /** Does the text; returns {position, reason} of its fault, or {-1, commands}. */
    private int[] perform() {
        int at = 0;
        int commands = 0;
        while (at < text.length()) {
            int end = text.indexOf(';', at);
            int reason = end < 0 ? 1 : reasonOf(text.substring(at, end));
            if (reason != 0) {
                return new int[] {at, reason};
            }
            commands++;
            at = end + 1;
        }
        return new int[] {-1, commands};
    }

    private int reasonOf(String command) {
        for (String[] form : COMMANDS) {
            int many = Integer.parseInt(form[1]);
            Matcher matcher = Pattern.compile(form[0] + NUMBER.repeat(many)).matcher(command);
            if (matcher.matches()) {
                int[] numbers = new int[many];
                for (int i = 0; i < many; i++) {
                    numbers[i] = Integer.parseInt(matcher.group(i + 1));
                }
                int answer = act(form[0], numbers);
                return answer >= 0 ? 0 : answer == INVALID ? 2 : 3;
            }
        }
        return 1;
    }

    int fault(int what) {
        if (!in(what, 0, 1)) {
            return INVALID;
        }
        State before = now.copy();
        int[] fault = perform();
        now = before;
        return fault[0] < 0 ? NONE : fault[what];
    }

    int play() {
        State before = now.copy();
        int[] fault = perform();
        if (fault[0] >= 0) {
            now = before;
            return IMPOSSIBLE;
        }
        remember(before);
        return fault[1];
    }
}
