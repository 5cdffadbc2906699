import java.util.ArrayDeque;
import java.util.ArrayList;
import java.util.Arrays;
import java.util.HashSet;
import java.util.List;
import java.util.NoSuchElementException;
import java.util.regex.Matcher;
import java.util.regex.Pattern;

/**
 * Compares BlockingShop with a model that is written from the document anew, with other means (longest paths between
 * all pairs of operations, tokens by a regular expression, copies of everything for undo), on shops and calls that a
 * fixed row of numbers picks.
 */
public final class ModelTest {
    private static final int SYNTAX = -2;
    private static final int RANGE = -3;
    private static final int MANY = -4;
    private static final int DEEP = -5;
    private static final int MOST_CALLS = 512;
    private static final long NEVER = Long.MIN_VALUE / 4;

    private static int wrong = 0;
    private static int calls = 0;
    private static String loaded = "";
    private static long row = 20261119L;

    private static int pick(int bound) {
        row = row * 6364136223846793005L + 1442695040888963407L;
        return (int) ((row >>> 33) % bound);
    }

    /** Each call of the object goes through here, so that it is asked no more than it answers for. */
    private static void due(String call, Object got, Object want) {
        calls++;
        if (calls == MOST_CALLS + 1) {
            wrong++;
            System.out.println("an object is called more than " + MOST_CALLS + " times");
        }
        if (!want.equals(got)) {
            wrong++;
            if (wrong <= 20) {
                System.out.println(call + " answered " + got + ", due is " + want + ", after the text " + loaded);
            }
        }
    }

    private interface Call {
        Object run();
    }

    private static Object answer(Call call) {
        try {
            return call.run();
        } catch (IndexOutOfBoundsException | IllegalArgumentException | IllegalStateException
                | NoSuchElementException e) {
            return e.getClass().getSimpleName();
        }
    }

    // ---- the model ----

    private static final class Failure extends RuntimeException {
        private static final long serialVersionUID = 1L;
        final int code;
        final int offset;

        Failure(int code, int offset) {
            this.code = code;
            this.offset = offset;
        }
    }

    private interface Expression {
        long value(long completion, long due, long weight, long release);
    }

    private record Operation(int machine, int duration) { }

    private record Job(int release, int due, int weight, List<Operation> operations) { }

    private static final class Setup {
        int machines;
        boolean swaps;
        final boolean[] blocking = {true, true, true, true, true, true};
        final int[] setup = new int[6];
        final List<Job> jobs = new ArrayList<>();
        Expression cost = null;
    }

    private record Token(String text, int offset) { }

    private static final class Parser {
        private static final Pattern TOKENS = Pattern.compile(" *([0-9]+|[a-z]+|[^ ])");
        final List<Token> tokens = new ArrayList<>();
        int next = 0;

        Parser(String text) {
            Matcher matcher = TOKENS.matcher(text);
            int from = 0;
            while (matcher.find(from) && matcher.start() == from) {
                tokens.add(new Token(matcher.group(1), matcher.start(1)));
                from = matcher.end();
            }
            tokens.add(new Token("", text.length()));
        }

        String peek() {
            return tokens.get(next).text();
        }

        Failure failure(int code) {
            return new Failure(code, tokens.get(next).offset());
        }

        void take(String text) {
            if (!peek().equals(text)) {
                throw failure(SYNTAX);
            }
            next++;
        }

        int number(int least, int greatest, List<Operation> taken) {
            if (!peek().matches("[0-9]+")) {
                throw failure(SYNTAX);
            }
            java.math.BigInteger value = new java.math.BigInteger(peek());
            if (value.bitLength() > 30 || value.intValue() < least || value.intValue() > greatest) {
                throw failure(RANGE);
            }
            for (Operation operation : taken) {
                if (operation.machine() == value.intValue()) {
                    throw failure(RANGE);
                }
            }
            next++;
            return value.intValue();
        }

        int number(int least, int greatest) {
            return number(least, greatest, List.of());
        }

        Setup setup() {
            Setup setup = new Setup();
            take("shop");
            setup.machines = number(1, 6);
            setup.swaps = number(0, 1) == 1;
            take(";");
            while (!peek().isEmpty()) {
                statement(setup);
                take(";");
            }
            if (setup.jobs.isEmpty()) {
                throw failure(SYNTAX);
            }
            if (setup.cost == null) {
                setup.cost = (completion, due, weight, release) -> completion;
            }
            return setup;
        }

        void statement(Setup setup) {
            switch (peek()) {
                case "job" -> job(setup);
                case "machine" -> {
                    next++;
                    int machine = number(0, setup.machines - 1);
                    setup.blocking[machine] = number(0, 1) == 1;
                    setup.setup[machine] = number(0, 99);
                }
                case "cost" -> {
                    if (setup.cost != null) {
                        throw failure(SYNTAX);
                    }
                    next++;
                    setup.cost = sum(0);
                }
                default -> throw failure(SYNTAX);
            }
        }

        void job(Setup setup) {
            if (setup.jobs.size() == 6) {
                throw failure(MANY);
            }
            next++;
            int release = number(0, 999);
            int due = number(0, 9999);
            int weight = number(0, 99);
            List<Operation> operations = new ArrayList<>();
            do {
                if (operations.size() == 6 && peek().equals("op")) {
                    throw failure(MANY);
                }
                take("op");
                int machine = number(0, setup.machines - 1, operations);
                operations.add(new Operation(machine, number(1, 99)));
            } while (peek().equals("op"));
            setup.jobs.add(new Job(release, due, weight, operations));
        }

        static long limited(long value) {
            return value > 1000000 ? 1000000 : value < -1000000 ? -1000000 : value;
        }

        Expression sum(int depth) {
            Expression left = term(depth);
            while (peek().equals("+") || peek().equals("-")) {
                int sign = peek().equals("+") ? 1 : -1;
                next++;
                Expression a = left;
                Expression b = term(depth);
                left = (c, d, w, r) -> limited(a.value(c, d, w, r) + sign * b.value(c, d, w, r));
            }
            return left;
        }

        Expression term(int depth) {
            Expression left = factor(depth);
            while (peek().equals("*") || peek().equals("/")) {
                boolean times = peek().equals("*");
                next++;
                Expression a = left;
                Expression b = factor(depth);
                left = (c, d, w, r) -> {
                    long x = a.value(c, d, w, r);
                    long y = b.value(c, d, w, r);
                    return times ? limited(x * y) : y == 0 ? 0 : x / y;
                };
            }
            return left;
        }

        Expression factor(int depth) {
            switch (peek()) {
                case "completion":
                    next++;
                    return (c, d, w, r) -> c;
                case "due":
                    next++;
                    return (c, d, w, r) -> d;
                case "weight":
                    next++;
                    return (c, d, w, r) -> w;
                case "release":
                    next++;
                    return (c, d, w, r) -> r;
                case "(":
                    if (depth == 4) {
                        throw failure(DEEP);
                    }
                    next++;
                    Expression inner = sum(depth + 1);
                    take(")");
                    return inner;
                default:
                    int value = number(0, 9999);
                    return (c, d, w, r) -> value;
            }
        }
    }

    /** The setup, the durations by job and operation, and the orders as lists of 10 * job + operation. */
    private record State(Setup setup, int[][] durations, List<List<Integer>> orders) {
        State copy() {
            int[][] copied = new int[durations.length][];
            for (int j = 0; j < copied.length; j++) {
                copied[j] = durations[j].clone();
            }
            List<List<Integer>> lists = new ArrayList<>();
            for (List<Integer> order : orders) {
                lists.add(new ArrayList<>(order));
            }
            return new State(setup, copied, lists);
        }

        State swapped(int machine, int position) {
            State next = copy();
            List<Integer> order = next.orders.get(machine);
            order.add(position, order.remove(position + 1));
            return next;
        }

        /** Longest paths of at least one arc between all operations; positive cycles grow beyond any sum of arcs. */
        long[][] longest() {
            long[][] path = new long[60][60];
            for (long[] line : path) {
                Arrays.fill(line, NEVER);
            }
            for (int j = 0; j < setup.jobs.size(); j++) {
                for (int k = 0; k + 1 < durations[j].length; k++) {
                    path[10 * j + k][10 * j + k + 1] = durations[j][k];
                }
            }
            for (int m = 0; m < setup.machines; m++) {
                for (int p = 0; p + 1 < orders.get(m).size(); p++) {
                    int a = orders.get(m).get(p);
                    int b = orders.get(m).get(p + 1);
                    boolean blocks = setup.blocking[m] && a % 10 + 1 < durations[a / 10].length;
                    int source = blocks ? a + 1 : a;
                    long length = blocks ? setup.setup[m] : durations[a / 10][a % 10] + setup.setup[m];
                    path[source][b] = Math.max(path[source][b], length);
                }
            }
            for (int via = 0; via < 60; via++) {
                for (int from = 0; from < 60; from++) {
                    for (int to = 0; to < 60; to++) {
                        if (path[from][via] != NEVER && path[via][to] != NEVER) {
                            long length = Math.min(1L << 40, path[from][via] + path[via][to]);
                            path[from][to] = Math.max(path[from][to], length);
                        }
                    }
                }
            }
            return path;
        }

        /** The starts by job and operation; null if the plan is deadlocked. */
        int[][] starts() {
            long[][] path = longest();
            for (int i = 0; i < 60; i++) {
                if (path[i][i] > 0 || (path[i][i] != NEVER && !setup.swaps)) {
                    return null;
                }
            }
            int[][] starts = new int[durations.length][];
            for (int j = 0; j < starts.length; j++) {
                starts[j] = new int[durations[j].length];
                for (int k = 0; k < starts[j].length; k++) {
                    long start = k == 0 ? setup.jobs.get(j).release() : 0;
                    for (int other = 0; other < starts.length; other++) {
                        if (path[10 * other][10 * j + k] != NEVER) {
                            start = Math.max(start, setup.jobs.get(other).release() + path[10 * other][10 * j + k]);
                        }
                    }
                    starts[j][k] = (int) start;
                }
            }
            return starts;
        }

        int completion(int[][] starts, int job) {
            int last = durations[job].length - 1;
            return starts[job][last] + durations[job][last];
        }

        int makespan(int[][] starts) {
            int makespan = 0;
            for (int j = 0; j < starts.length; j++) {
                makespan = Math.max(makespan, completion(starts, j));
            }
            return makespan;
        }

        int cost(int[][] starts, int j) {
            Job job = setup.jobs.get(j);
            return (int) setup.cost.value(completion(starts, j), job.due(), job.weight(), job.release());
        }

        int cost(int[][] starts) {
            int sum = 0;
            for (int j = 0; j < starts.length; j++) {
                sum += cost(starts, j);
            }
            return sum;
        }

        int leave(int[][] starts, int j, int k) {
            boolean waits = setup.blocking[setup.jobs.get(j).operations().get(k).machine()];
            return waits && k + 1 < starts[j].length ? starts[j][k + 1] : starts[j][k] + durations[j][k];
        }

        List<Integer> critical(int[][] starts) {
            List<Integer> path = new ArrayList<>();
            int makespan = makespan(starts);
            int at = -1;
            for (int j = starts.length - 1; j >= 0; j--) {
                if (completion(starts, j) == makespan) {
                    at = 10 * j + starts[j].length - 1;
                }
            }
            while (at >= 0 && !path.contains(at)) {
                path.add(at);
                int j = at / 10;
                int k = at % 10;
                if (k == 0 && starts[j][0] == setup.jobs.get(j).release()) {
                    at = -1;
                } else if (k > 0 && starts[j][k - 1] + durations[j][k - 1] == starts[j][k]) {
                    at--;
                } else {
                    int m = setup.jobs.get(j).operations().get(k).machine();
                    int before = orders.get(m).get(orders.get(m).indexOf(at) - 1);
                    boolean blocks = setup.blocking[m] && before % 10 + 1 < starts[before / 10].length;
                    at = blocks ? before + 1 : before;
                }
            }
            return path;
        }
    }

    private static State firstPlan(Setup setup, int[][] durations) {
        List<List<Integer>> orders = new ArrayList<>();
        for (int m = 0; m < setup.machines; m++) {
            orders.add(new ArrayList<>());
        }
        for (int j = 0; j < setup.jobs.size(); j++) {
            for (int k = 0; k < setup.jobs.get(j).operations().size(); k++) {
                orders.get(setup.jobs.get(j).operations().get(k).machine()).add(10 * j + k);
            }
        }
        return new State(setup, durations, orders);
    }

    private static State firstPlan(Setup setup) {
        int[][] durations = new int[setup.jobs.size()][];
        for (int j = 0; j < durations.length; j++) {
            durations[j] = setup.jobs.get(j).operations().stream().mapToInt(Operation::duration).toArray();
        }
        return firstPlan(setup, durations);
    }

    private static State noShop() {
        return new State(new Setup(), new int[0][], new ArrayList<>());
    }

    // ---- a run: one object and its model, side by side ----

    private final BlockingShop shop = new BlockingShop();
    private State state = noShop();
    private final ArrayDeque<State> history = new ArrayDeque<>();
    private int errorOffset = -1;

    private ModelTest() {
        calls = 0;
    }

    private void remember() {
        history.addLast(state);
        if (history.size() > 8) {
            history.removeFirst();
        }
    }

    private void load(String text) {
        loaded = text;
        byte[] bytes = new byte[(text.length() + 19) / 20 * 20];
        for (int i = 0; i < text.length(); i++) {
            bytes[i] = (byte) text.charAt(i);
        }
        for (int i = 0; i < bytes.length; i += 20) {
            int[] w = new int[5];
            for (int b = 0; b < 20; b++) {
                w[b / 4] = w[b / 4] << 8 | bytes[i + b] & 255;
            }
            due("append", shop.append(w[0], w[1], w[2], w[3], w[4]), i + 20);
        }
        int want;
        try {
            Setup setup = new Parser(text).setup();
            remember();
            state = firstPlan(setup);
            errorOffset = -1;
            want = setup.jobs.size();
        } catch (Failure e) {
            errorOffset = e.offset;
            want = e.code;
        }
        due("load", shop.load(text.length()), want);
        due("errorOffset", shop.errorOffset(), errorOffset);
    }

    private static int blocks(List<Integer> path, Setup setup, boolean wantsLongest) {
        int blocks = 0;
        int longest = 0;
        for (int from = 0; from < path.size();) {
            int to = from;
            while (to < path.size() && machineOf(setup, path.get(to)) == machineOf(setup, path.get(from))) {
                to++;
            }
            blocks++;
            longest = Math.max(longest, to - from);
            from = to;
        }
        return wantsLongest ? longest : blocks;
    }

    private static int machineOf(Setup setup, int code) {
        return setup.jobs.get(code / 10).operations().get(code % 10).machine();
    }

    private void checkAll() {
        int[][] starts = state.starts();
        Setup setup = state.setup();
        due("machineCount", shop.machineCount(), setup.machines);
        due("jobCount", shop.jobCount(), setup.jobs.size());
        due("makespan", shop.makespan(), state.makespan(starts));
        due("planCost", shop.planCost(), state.cost(starts));
        due("errorOffset", shop.errorOffset(), errorOffset);
        for (int m = 0; m < setup.machines; m++) {
            due("orderLength", shop.orderLength(m), state.orders().get(m).size());
            int blocked = 0;
            for (int p = 0; p < state.orders().get(m).size(); p++) {
                int code = state.orders().get(m).get(p);
                due("orderAt " + m + " " + p, shop.orderAt(m, p), code);
                due("operation, position", shop.operation(code / 10, code % 10, 2), p);
                due("operation, machine", shop.operation(code / 10, code % 10, 0), m);
                blocked += state.leave(starts, code / 10, code % 10) - starts[code / 10][code % 10]
                        - state.durations()[code / 10][code % 10];
            }
            due("blockedTime " + m, shop.blockedTime(m), blocked);
        }
        for (int j = 0; j < starts.length; j++) {
            due("operationCount", shop.operationCount(j), starts[j].length);
            due("completion " + j, shop.completion(j), state.completion(starts, j));
            due("jobCost " + j, shop.jobCost(j), state.cost(starts, j));
            for (int k = 0; k < starts[j].length; k++) {
                due("start " + j + " " + k, shop.start(j, k), starts[j][k]);
                due("leave " + j + " " + k, shop.leave(j, k), state.leave(starts, j, k));
                due("operation, duration", shop.operation(j, k, 1), state.durations()[j][k]);
            }
        }
        checkSum(starts);
        checkCriticalPath(starts);
    }

    private void checkSum(int[][] starts) {
        long sum = 31L * state.makespan(starts) + state.cost(starts);
        for (List<Integer> order : state.orders()) {
            for (int code : order) {
                sum = 31 * sum + code;
            }
        }
        for (int[] line : starts) {
            for (int start : line) {
                sum = 31 * sum + start;
            }
        }
        due("checksum", shop.checksum(), sum);
    }

    private void checkCriticalPath(int[][] starts) {
        List<Integer> path = state.critical(starts);
        due("a path without repetition", new HashSet<>(path).size(), path.size());
        due("criticalLength", shop.criticalLength(), path.size());
        for (int k = 0; k < path.size(); k++) {
            due("critical " + k, shop.critical(k), path.get(k));
        }
        int k = path.size();
        due("critical behind its end", answer(() -> shop.critical(k)), "NoSuchElementException");
        due("blockCount", shop.blockCount(), blocks(path, state.setup(), false));
        due("longestBlock", shop.longestBlock(), blocks(path, state.setup(), true));
    }

    /** The code of the best swap, or -1. */
    private int bestSwap(State present) {
        int best = -1;
        long bestValue = Long.MAX_VALUE;
        for (int m = 0; m < present.setup().machines; m++) {
            for (int p = 0; p + 1 < present.orders().get(m).size(); p++) {
                State next = present.swapped(m, p);
                int[][] starts = next.starts();
                if (starts != null && value(next, starts) < bestValue) {
                    bestValue = value(next, starts);
                    best = 100 * m + p;
                }
            }
        }
        return best;
    }

    private static long value(State plan, int[][] starts) {
        return plan.makespan(starts) * 100000000L + plan.cost(starts);
    }

    private void checkSwaps() {
        for (int m = 0; m < state.setup().machines; m++) {
            for (int p = 0; p + 1 < state.orders().get(m).size(); p++) {
                State next = state.swapped(m, p);
                int[][] starts = next.starts();
                due("deadlocks " + m + " " + p, shop.deadlocks(m, p), starts == null);
                due("makespanAfter " + m + " " + p, shop.makespanAfter(m, p), starts == null ? -1 : next.makespan(starts));
            }
        }
        due("bestSwap", shop.bestSwap(), bestSwap(state));
    }

    private Object modelSwap(int machine, int position) {
        if (machine < 0 || machine >= state.setup().machines || position < 0
                || position + 1 >= state.orders().get(machine).size()) {
            return "IndexOutOfBoundsException";
        }
        return change(state.swapped(machine, position));
    }

    private Object change(State next) {
        int[][] starts = next.starts();
        if (starts == null) {
            return "IllegalStateException";
        }
        remember();
        state = next;
        return next.makespan(starts);
    }

    private boolean has(int job, int operation) {
        return job >= 0 && job < state.durations().length && operation >= 0
                && operation < state.durations()[job].length;
    }

    private Object modelPlace(int job, int operation, int position) {
        if (!has(job, operation)) {
            return "IndexOutOfBoundsException";
        }
        State next = state.copy();
        List<Integer> order = next.orders().get(machineOf(state.setup(), 10 * job + operation));
        if (position < 0 || position >= order.size()) {
            return "IndexOutOfBoundsException";
        }
        order.remove((Integer) (10 * job + operation));
        order.add(position, 10 * job + operation);
        return change(next);
    }

    private Object modelSetDuration(int job, int operation, int duration) {
        if (!has(job, operation)) {
            return "IndexOutOfBoundsException";
        }
        if (duration < 1 || duration > 99) {
            return "IllegalArgumentException";
        }
        remember();
        state = state.copy();
        int previous = state.durations()[job][operation];
        state.durations()[job][operation] = duration;
        return previous;
    }

    private Object modelImprove(int most) {
        if (most < 1 || most > 20) {
            return "IllegalArgumentException";
        }
        remember();
        for (int made = 0; made < most; made++) {
            int best = bestSwap(state);
            if (best < 0) {
                return made;
            }
            State next = state.swapped(best / 100, best % 100);
            if (value(next, next.starts()) >= value(state, state.starts())) {
                return made;
            }
            state = next;
        }
        return most;
    }

    private Object modelUndo() {
        if (history.isEmpty()) {
            return -1;
        }
        state = history.removeLast();
        return history.size();
    }

    private void changeSomething() {
        int a = pick(8) - 1;
        int b = pick(8) - 1;
        int c = pick(8) - 1;
        switch (pick(12)) {
            case 0, 1, 2, 3 -> due("swap " + a + " " + b, answer(() -> shop.swap(a, b)), modelSwap(a, b));
            case 4, 5, 6 -> due("place " + a + " " + b + " " + c, answer(() -> shop.place(a, b, c)), modelPlace(a, b, c));
            case 7 -> {
                int duration = pick(10) == 0 ? pick(3) * 50 : 1 + pick(30);
                due("setDuration", answer(() -> shop.setDuration(a, b, duration)), modelSetDuration(a, b, duration));
            }
            case 8 -> {
                int most = pick(23);
                due("improve " + most, answer(() -> shop.improve(most)), modelImprove(most));
            }
            case 9 -> {
                if (pick(3) == 0) {
                    remember();
                    state = firstPlan(state.setup(), state.copy().durations());
                    due("restart", shop.restart(), state.makespan(state.starts()));
                }
            }
            default -> due("undo", answer(shop::undo), modelUndo());
        }
    }

    // ---- texts ----

    private static String number(int least, int beyond) {
        String zeros = pick(12) == 0 ? "00" : "";
        return " " + zeros + (least + pick(beyond - least));
    }

    private static String setupText() {
        int machines = 1 + pick(6);
        int longest = pick(2) == 0 ? 3 : 30;
        StringBuilder text = new StringBuilder("shop " + machines + " " + pick(2) + ";");
        if (pick(2) == 0) {
            text.append(machineText(machines));
        }
        int jobs = 1 + pick(6);
        for (int j = 0; j < jobs; j++) {
            text.append("job").append(number(0, pick(3) == 0 ? 40 : 1)).append(number(0, 100)).append(number(0, 10));
            List<Integer> left = new ArrayList<>();
            for (int m = 0; m < machines; m++) {
                left.add(m);
            }
            int operations = Math.max(1, machines - pick(3));
            for (int k = 0; k < operations; k++) {
                text.append(" op ").append(left.remove(pick(left.size()))).append(number(1, longest));
            }
            text.append(";");
        }
        if (pick(2) == 0) {
            text.append("cost ").append(sumText(0)).append(";");
        }
        while (pick(3) == 0) {
            text.append(machineText(machines));
        }
        return text.toString();
    }

    private static String machineText(int machines) {
        return "machine " + pick(machines) + " " + pick(2) + " " + (pick(2) == 0 ? 0 : pick(10)) + ";";
    }

    private static String sumText(int depth) {
        StringBuilder text = new StringBuilder(factorText(depth));
        while (pick(2) == 0) {
            text.append("+-*/".charAt(pick(4))).append(factorText(depth));
        }
        return text.toString();
    }

    private static String factorText(int depth) {
        String[] names = {"completion", "due", "weight", "release", "completion", " 7", "0", "9999"};
        if (depth < 5 && pick(4) == 0) {
            return "(" + sumText(depth + 1) + ")";
        }
        return names[pick(names.length)];
    }

    private static String spoiled(String text) {
        String[] pieces = {";", " ", "7", "99", "100", "1000", "10000", "(", ")", "op", "op 0 1", "job", "job 0 0 0 op 0 1;",
            "cost", "cost 1;", "machine 0 1 1;", "machine", "shop", "x", "A", "\n", "+", "-", "due", "\u00ff", "*", "\u0000"};
        StringBuilder other = new StringBuilder(text);
        for (int i = pick(3); i >= 0; i--) {
            int at = pick(other.length() + 1);
            int removed = pick(2) == 0 ? 0 : Math.min(pick(4), other.length() - at);
            other.replace(at, at + removed, pick(2) == 0 ? pieces[pick(pieces.length)] : "");
        }
        if (pick(5) == 0) {
            other.setLength(pick(other.length() + 1));
        }
        return other.toString();
    }

    private static String shortened(String text) {
        return text.length() > 900 ? text.substring(0, 900) : text;
    }

    private static void runPlan() {
        ModelTest run = new ModelTest();
        run.load(shortened(setupText()));
        int changes = pick(13);
        int loadAt = pick(26);
        for (int change = 0; change < changes; change++) {
            if (change == loadAt) {
                run.load(shortened(setupText()));
            }
            run.changeSomething();
            run.checkSum(run.state.starts());
        }
        run.checkAll();
        run.checkSwaps();
    }

    private static void runText() {
        ModelTest run = new ModelTest();
        if (pick(2) == 0) {
            run.load(shortened(setupText()));
        }
        run.load(shortened(spoiled(setupText())));
        run.checkAll();
    }

    public static void main(String[] args) {
        for (int run = 0; run < 2000 && wrong == 0; run++) {
            runPlan();
            runText();
            runText();
            runText();
        }
        System.out.println(wrong == 0 ? "the model agrees" : wrong + " answers differ from the model");
        if (wrong != 0) {
            System.exit(1);
        }
    }
}
