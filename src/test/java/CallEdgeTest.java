import java.util.NoSuchElementException;
import java.util.function.Consumer;

/**
 * The edges of the calls: for each method what it refuses (and that nothing is changed then) and its special answers,
 * calls without a shop, the input buffer, and undo. The used object is that of Checks: four machines with 2, 3, 1 and 0
 * operations, three jobs with 2 operations each.
 */
public final class CallEdgeTest extends Checks {
    private static final int LEAST = Integer.MIN_VALUE;
    private static final int GREATEST = Integer.MAX_VALUE;
    /** No job, machine or operation of any object. */
    private static final int[] FAR = {-1, -2, LEAST, GREATEST, LEAST + 1, GREATEST - 1, 6, 7, 10, 36, 1 << 16, 1 << 30};
    /** No jobs of the used object; the last two would meet an operation if six times a job wrapped around. */
    private static final int[] NO_JOBS = {-1, 3, 4, 5, 6, LEAST, GREATEST, 715827883, -715827882};
    private static final int[] NO_MACHINES = {-1, 4, 5, 6, LEAST, GREATEST, 715827883, -715827882};
    private static final int[] NO_OPERATIONS = {-1, 2, 3, 6, LEAST, GREATEST};

    private interface OperationCall {
        void on(BlockingShop shop, int job, int operation);
    }

    private interface NumberCall {
        void on(BlockingShop shop, int number);
    }

    /** Each job that there is not, and each operation that a job has not. */
    private static void noOperation(String what, OperationCall call) {
        for (int job : NO_JOBS) {
            noIndex(what + " of job " + job, x -> call.on(x, job, 0));
            noIndex(what + " of job " + job + ", no operation", x -> call.on(x, job, -1));
        }
        for (int operation : NO_OPERATIONS) {
            noIndex(what + " of operation " + operation + " of job 0", x -> call.on(x, 0, operation));
            noIndex(what + " of operation " + operation + " of job 2", x -> call.on(x, 2, operation));
        }
    }

    private static void noJob(String what, NumberCall call) {
        for (int job : NO_JOBS) {
            noIndex(what + " of job " + job, x -> call.on(x, job));
        }
    }

    private static void noMachine(String what, NumberCall call) {
        for (int machine : NO_MACHINES) {
            noIndex(what + " of machine " + machine, x -> call.on(x, machine));
        }
    }

    /** Each machine that there is not, and each position p without p and p + 1. */
    private static void noSwap(String what, OperationCall call) {
        for (int machine : NO_MACHINES) {
            noIndex(what + " of machine " + machine, x -> call.on(x, machine, 0));
        }
        int[] lengths = {2, 3, 1, 0};
        for (int machine = 0; machine < lengths.length; machine++) {
            int at = machine;
            for (int position : new int[] {-1, lengths[at] - 1, lengths[at], 5, 6, LEAST, GREATEST}) {
                noIndex(what + " of machine " + at + " at " + position, x -> call.on(x, at, position));
            }
        }
    }

    // Promise 1 and a shop that there is not yet

    private static void newObject() {
        sentence("Creates an object without a shop, with an empty input buffer.");
        due("errorOffset", new BlockingShop().errorOffset(), -1);
        due("undo", new BlockingShop().undo(), -1);
        due("the first append", appendBlanks(new BlockingShop()), 20);
        dueThrow("load(1)", IllegalArgumentException.class, () -> new BlockingShop().load(1));
        due("load(0)", new BlockingShop().load(0), SYNTAX);
        sentence("Before the first successful load there is no shop: there are no machines and jobs, the makespan and the cost"
                + " of the plan are 0, and there is no critical path.");
        dueNoShop("at first", new BlockingShop());
        BlockingShop failed = new BlockingShop();
        load(failed, "shop 1 0;job 0 0 0 op 0 1;x");
        dueNoShop("after an error", failed);
        BlockingShop undone = shopOf(USED);
        undone.undo();
        dueNoShop("after the first load was undone", undone);
    }

    private static void dueNoShop(String when, BlockingShop x) {
        due("machineCount " + when, x.machineCount(), 0);
        due("jobCount " + when, x.jobCount(), 0);
        due("makespan " + when, x.makespan(), 0);
        due("planCost " + when, x.planCost(), 0);
        due("criticalLength " + when, x.criticalLength(), 0);
        due("blockCount " + when, x.blockCount(), 0);
        due("longestBlock " + when, x.longestBlock(), 0);
        due("bestSwap " + when, x.bestSwap(), -1);
        due("checksum " + when, x.checksum(), 0);
        dueThrow("critical(0) " + when, NoSuchElementException.class, () -> x.critical(0));
        dueThrow("orderLength(0) " + when, IndexOutOfBoundsException.class, () -> x.orderLength(0));
        dueThrow("operationCount(0) " + when, IndexOutOfBoundsException.class, () -> x.operationCount(0));
    }

    private static void refusedUnused(String what, Class<?> want, Consumer<BlockingShop> call) {
        refused(what + " without a shop", want, Checks::unused, call);
    }

    private static void refusalsWithoutShop() {
        sentence("there are no machines and jobs");
        for (int number : new int[] {-1, 0, 1, LEAST, GREATEST}) {
            Class<?> index = IndexOutOfBoundsException.class;
            refusedUnused("operationCount", index, x -> x.operationCount(number));
            refusedUnused("operation", index, x -> x.operation(number, 0, 0));
            refusedUnused("operation, and no such what", index, x -> x.operation(number, 0, 3));
            refusedUnused("orderLength", index, x -> x.orderLength(number));
            refusedUnused("orderAt", index, x -> x.orderAt(number, 0));
            refusedUnused("start", index, x -> x.start(number, 0));
            refusedUnused("leave", index, x -> x.leave(number, 0));
            refusedUnused("completion", index, x -> x.completion(number));
            refusedUnused("jobCost", index, x -> x.jobCost(number));
            refusedUnused("blockedTime", index, x -> x.blockedTime(number));
            refusedUnused("deadlocks", index, x -> x.deadlocks(number, 0));
            refusedUnused("makespanAfter", index, x -> x.makespanAfter(number, 0));
            refusedUnused("swap", index, x -> x.swap(number, 0));
            refusedUnused("place", index, x -> x.place(number, 0, 0));
            refusedUnused("setDuration", index, x -> x.setDuration(number, 0, 1));
            refusedUnused("setDuration, and no such duration", index, x -> x.setDuration(number, 0, 0));
            refusedUnused("critical", NoSuchElementException.class, x -> x.critical(number));
        }
        refusedUnused("improve(0)", IllegalArgumentException.class, x -> x.improve(0));
        refusedUnused("improve(21)", IllegalArgumentException.class, x -> x.improve(21));
        refusedUnused("load beyond the buffer", IllegalArgumentException.class, x -> x.load(41));
        refusedUnused("load(-1)", IllegalArgumentException.class, x -> x.load(-1));
        BlockingShop x = new BlockingShop();
        due("improve(20) without a shop", x.improve(20), 0);
        due("restart without a shop", x.restart(), 0);
        due("undo of restart without a shop", x.undo(), 1);
        due("undo of improve without a shop", x.undo(), 0);
        due("undo of nothing", x.undo(), -1);
        dueNoShop("after these calls", x);
    }

    // Promises 2 to 4

    private static void appending() {
        sentence("Appends 20 bytes to the input buffer: the 4 bytes of each argument, the most significant byte first.");
        BlockingShop bytes = new BlockingShop();
        // The first letter of each word, behind spaces: the error is where the byte stands.
        int[] words = {0x61202020, 0x20612020, 0x20206120, 0x20202061, 0xff202020, 0x20ff2020, 0x2020ff20, 0x202020ff};
        for (int word = 0; word < words.length; word++) {
            for (int place = 0; place < 5; place++) {
                int[] w = {0x20202020, 0x20202020, 0x20202020, 0x20202020, 0x20202020};
                w[place] = words[word];
                bytes.append(w[0], w[1], w[2], w[3], w[4]);
                due("load of a wrong byte", bytes.load(20), SYNTAX);
                due("its place", bytes.errorOffset(), 4 * place + word % 4);
            }
        }
        sentence("Returns the new length of the buffer");
        BlockingShop x = new BlockingShop();
        put(x, USED);
        for (int length = 120; length <= 880; length += 20) {
            due("append", appendBlanks(x), length);
        }
        due("append up to 900", x.append(0x20202020, 0x20202020, 0x20202020, 0x20202020, 0x20202078), 900);
        sentence("-1 if it would exceed 900 bytes, and the buffer is unchanged then.");
        due("append to 900 bytes", x.append(0x20202020, 0x20202020, 0x20202020, 0x20202020, 0x20202020), -1);
        due("append once more", x.append(-1, -1, -1, -1, -1), -1);
        dueThrow("load(901)", IllegalArgumentException.class, () -> x.load(901));
        due("load of the 900 bytes", x.load(900), SYNTAX);
        due("errorOffset of the last byte", x.errorOffset(), 899);
        due("append after that", appendBlanks(x), 20);
        BlockingShop full = usedAndFull();
        for (int i = 0; i < 20; i++) {
            due("append to a full buffer", full.append(-1, 0, i, 0x31313131, 0x3b3b3b3b), -1);
        }
        dueUntouched("append to a full buffer", full, usedAndFull());
        BlockingShop changed = shopOf(USED);
        changed.restart();
        for (int i = 0; i < 46; i++) {
            appendBlanks(changed);
        }
        due("what undo answers after append, which is no change", changed.undo(), 1);
    }

    private static BlockingShop usedAndFull() {
        BlockingShop shop = used();
        for (int length = 60; length <= 900; length += 20) {
            appendBlanks(shop);
        }
        return shop;
    }

    private static void loadLengths() {
        sentence("Throws IllegalArgumentException if length is negative or greater than the length of the buffer; the buffer"
                + " is unchanged then");
        for (int length : new int[] {-1, -2, LEAST, 41, 42, 60, 901, GREATEST}) {
            noArgument("load(" + length + ")", x -> x.load(length));
        }
        dueThrow("load(1) of an empty buffer", IllegalArgumentException.class, () -> new BlockingShop().load(1));
        dueThrow("load(-1) of an empty buffer", IllegalArgumentException.class, () -> new BlockingShop().load(-1));
        due("load of the whole buffer", used().load(40), 1);
        due("load of nothing", used().load(0), SYNTAX);
        sentence("Reads the first bytes of the input buffer as a setup text");
        due("load of just the text", used().load(WAITING.length()), 1);
        due("load of one byte less", used().load(WAITING.length() - 1), SYNTAX);
        BlockingShop parts = new BlockingShop();
        put(parts, "shop 1 0;job 0 0 0 op 0 10;job 0 0 0 op 0 2;");
        due("load of a part", parts.load(27), 1);
        due("the duration at its end", parts.operation(0, 0, 1), 10);
        // The bytes behind the length belong to no run: those of the same text, then those of the text before.
        BlockingShop cut = new BlockingShop();
        String text = "shop 1 0;job 0 0 0 op 0 1;cost 12;";
        put(cut, text);
        due("load up to the middle of a number", cut.load(text.length() - 2), SYNTAX);
        due("its errorOffset", cut.errorOffset(), text.length() - 2);
        text = "shop 1 0;job 0 0 0 op 0 1;cost completion;";
        put(cut, text);
        due("load up to the middle of a word", cut.load(text.length() - 2), SYNTAX);
        due("its errorOffset", cut.errorOffset(), text.indexOf("completion"));
        put(cut, "shop 1 0;job 0 0 0 op 0 1;     cost completion;");
        due("load up to the end of a word's beginning", cut.load(40), SYNTAX);
        due("its errorOffset", cut.errorOffset(), 36);
        due("load that ends in a number, over the same bytes", load(cut, "shop 1 0;job 0 0 0 op 0 1; cost   1+1111"), SYNTAX);
        due("its errorOffset", cut.errorOffset(), 40);
        put(cut, "9".repeat(900));
        cut.load(0);
        due("load that ends in a number, over nines", load(cut, "shop 1 0;job 0 0 0 op 0 1; cost   1+1111"), SYNTAX);
        due("its errorOffset", cut.errorOffset(), 40);
        put(cut, "x".repeat(900));
        cut.load(0);
        due("load that ends in a word, over letters", load(cut, "shop 1 0;job 0 0 0 op 0 1; cost    1-due"), SYNTAX);
        due("its errorOffset", cut.errorOffset(), 40);
        sentence("The input buffer is empty afterwards, also if the text has an error.");
        for (int length : new int[] {0, 9, WAITING.length(), 40}) {
            BlockingShop x = used();
            x.load(length);
            dueThrow("load(1) after load(" + length + ")", IllegalArgumentException.class, () -> x.load(1));
            due("append after load(" + length + ")", appendBlanks(x), 20);
            due("load of blanks after load(" + length + ")", x.load(20), SYNTAX);
            due("its errorOffset", x.errorOffset(), 20);
        }
    }

    private static void loading() {
        sentence("and replaces all data by it, with the first plan.");
        BlockingShop x = used();
        due("load of another shop", x.load(WAITING.length()), 1);
        due("all data", view(x), view(shopOf(WAITING)));
        BlockingShop changed = shopOf(USED);
        changed.place(2, 0, 0);
        changed.setDuration(0, 0, 50);
        due("load of the same shop", load(changed, USED), 3);
        due("all data, with the first plan and durations", view(changed), view(shopOf(USED)));
        BlockingShop statements = shopOf("shop 4 1;cost 1;machine 0 0 9;machine 1 0 9;machine 2 0 9;job 0 0 0 op 0 1;");
        due("load of a shop without statements", load(statements, USED), 3);
        due("all data, without the statements of before", view(statements), view(shopOf(USED)));
        sentence("Returns the number of jobs; or the error code of the first error.");
        due("load of one job", load(new BlockingShop(), "shop 1 0;job 0 0 0 op 0 1;"), 1);
        due("load of six jobs", load(new BlockingShop(), "shop 1 0;" + "job 0 0 0 op 0 1;".repeat(6)), 6);
        sentence("An error leaves all other data unchanged.");
        String[] errors = {"", "shop 7 0;", "shop 6 1;machine 0 0 9;job 9 9 9 op 5 9;cost 1;x", "shop 1 0;cost (((((",
            "shop 1 0;" + "job 0 0 0 op 0 1;".repeat(7), "shop 1 0;job 0 0 0 op 0 1 op 0 1;"};
        for (String text : errors) {
            BlockingShop one = shopOf(USED);
            BlockingShop twin = shopOf(USED);
            one.place(2, 0, 1);
            twin.place(2, 0, 1);
            due("load of " + text + ": whether it is an error", load(one, text) < 0, true);
            due("the data after " + text, view(one), view(twin));
            due("undo after " + text, one.undo(), 1);
            due("undo after " + text, one.undo(), 0);
            due("undo after " + text, one.undo(), -1);
        }
    }

    private static void errorOffsets() {
        sentence("Returns the offset of the error found by the latest call of load that did not throw; -1 if it found none or"
                + " if there was no such call.");
        BlockingShop x = new BlockingShop();
        due("errorOffset without a load", x.errorOffset(), -1);
        dueThrow("load(1)", IllegalArgumentException.class, () -> x.load(1));
        due("errorOffset when the only load threw", x.errorOffset(), -1);
        due("load of an error", load(x, "shop 7 0;"), RANGE);
        due("errorOffset", x.errorOffset(), 5);
        dueThrow("load(-1)", IllegalArgumentException.class, () -> x.load(-1));
        due("errorOffset after a load that threw", x.errorOffset(), 5);
        due("load of nothing", x.load(0), SYNTAX);
        due("errorOffset 0", x.errorOffset(), 0);
        due("load", load(x, USED), 3);
        due("errorOffset when it found none", x.errorOffset(), -1);
        dueThrow("load(1)", IllegalArgumentException.class, () -> x.load(1));
        due("errorOffset after another load that threw", x.errorOffset(), -1);
        due("load of an error", load(x, "shop 1 0;;"), SYNTAX);
        due("errorOffset of the latest", x.errorOffset(), 9);
        x.setDuration(0, 0, 1);
        x.restart();
        due("errorOffset after other calls", x.errorOffset(), 9);
    }

    // Promises 5 to 21

    private static void questionsOfJobs() {
        sentence("Throws IndexOutOfBoundsException if there is no such job");
        noJob("operationCount", (x, job) -> x.operationCount(job));
        noJob("completion", (x, job) -> x.completion(job));
        noJob("jobCost", (x, job) -> x.jobCost(job));
        due("operationCount of the last job", used().operationCount(2), 2);
        due("completion of the last job", used().completion(2), 22);
        due("jobCost of the last job", used().jobCost(2), 22);
        sentence("Throws IndexOutOfBoundsException if there is no such job or operation");
        noOperation("operation(.., 0)", (x, job, operation) -> x.operation(job, operation, 0));
        noOperation("operation(.., 2)", (x, job, operation) -> x.operation(job, operation, 2));
        noOperation("start", (x, job, operation) -> x.start(job, operation));
        noOperation("leave", (x, job, operation) -> x.leave(job, operation));
        due("start of the last operation", used().start(2, 1), 14);
        due("leave of the last operation", used().leave(2, 1), 22);
        sentence("Throws IllegalArgumentException if what is not 0 to 2");
        for (int what : new int[] {-1, 3, 4, LEAST, GREATEST}) {
            noArgument("operation(0, 0, " + what + ")", x -> x.operation(0, 0, what));
            noArgument("operation(2, 1, " + what + ")", x -> x.operation(2, 1, what));
        }
        due("operation, what 0", used().operation(2, 1, 0), 2);
        due("operation, what 1", used().operation(2, 1, 1), 8);
        due("operation, what 2", used().operation(2, 0, 2), 1);
        sentence("If several exceptions apply to a call, the one that is listed first with the method is thrown.");
        noOperation("operation(.., 3)", (x, job, operation) -> x.operation(job, operation, 3));
        noOperation("operation(.., -1)", (x, job, operation) -> x.operation(job, operation, -1));
        for (int far : FAR) {
            noIndex("operation(" + far + ")", x -> x.operation(far, far, far));
            noIndex("start(" + far + ")", x -> x.start(far, far));
            noIndex("leave(" + far + ")", x -> x.leave(far, far));
        }
    }

    private static void questionsOfMachines() {
        sentence("Throws IndexOutOfBoundsException if there is no such machine");
        noMachine("orderLength", (x, machine) -> x.orderLength(machine));
        noMachine("blockedTime", (x, machine) -> x.blockedTime(machine));
        noMachine("orderAt", (x, machine) -> x.orderAt(machine, 0));
        due("orderLength of the last machine, which has none", used().orderLength(3), 0);
        due("blockedTime of the last machine", used().blockedTime(3), 0);
        due("orderLength of the first machine", used().orderLength(0), 2);
        due("blockedTime of the first machine", used().blockedTime(0), 9);
        sentence("Throws IndexOutOfBoundsException if there is no such machine or position");
        int[] lengths = {2, 3, 1, 0};
        int[] last = {10, 11, 21};
        for (int machine = 0; machine < lengths.length; machine++) {
            int at = machine;
            for (int position : new int[] {-1, lengths[at], lengths[at] + 1, 6, LEAST, GREATEST}) {
                noIndex("orderAt(" + at + ", " + position + ")", x -> x.orderAt(at, position));
            }
            if (lengths[at] > 0) {
                due("orderAt of the last position", used().orderAt(at, lengths[at] - 1), last[at]);
            }
        }
        for (int far : FAR) {
            noIndex("orderAt(" + far + ", " + far + ")", x -> x.orderAt(far, far));
        }
    }

    private static void questionsOfPath() {
        sentence("Throws NoSuchElementException if there is no such index");
        int length = used().criticalLength();
        due("criticalLength", length, 4);
        for (int k : new int[] {-1, length, length + 1, 35, 36, 37, LEAST, GREATEST}) {
            refused("critical(" + k + ")", NoSuchElementException.class, x -> x.critical(k));
        }
        due("critical(0)", used().critical(0), 21);
        due("critical of the last index", used().critical(length - 1), 0);
        sentence("0 if there is none.");
        due("longestBlock without a path", new BlockingShop().longestBlock(), 0);
        due("longestBlock of one operation", shopOf(WAITING).longestBlock(), 1);
    }

    // Promises 22 to 26

    private static void swaps() {
        sentence("Throws IndexOutOfBoundsException if there is no such machine, or if it does not have the positions p and"
                + " p + 1");
        noSwap("deadlocks", (x, machine, position) -> x.deadlocks(machine, position));
        noSwap("makespanAfter", (x, machine, position) -> x.makespanAfter(machine, position));
        noSwap("swap", (x, machine, position) -> x.swap(machine, position));
        for (int far : FAR) {
            noIndex("deadlocks(" + far + ", " + far + ")", x -> x.deadlocks(far, far));
            noIndex("makespanAfter(" + far + ", " + far + ")", x -> x.makespanAfter(far, far));
            noIndex("swap(" + far + ", " + far + ")", x -> x.swap(far, far));
        }
        due("deadlocks of the last position", used().deadlocks(1, 1), false);
        due("makespanAfter of the last position", used().makespanAfter(1, 1), 27);
        due("swap of the last position", used().swap(1, 1), 27);
        due("swap of the first position", used().swap(1, 0), 17);
        sentence("Throws IllegalStateException if the plan would be deadlocked");
        noState("swap(0, 0)", x -> x.swap(0, 0));
        sentence("Returns the makespan after this swap; -1 if the plan would be deadlocked by it.");
        due("makespanAfter(0, 0)", used().makespanAfter(0, 0), -1);
        sentence("Returns whether the plan would be deadlocked by this swap.");
        due("deadlocks(0, 0)", used().deadlocks(0, 0), true);
        BlockingShop asked = used();
        asked.deadlocks(0, 0);
        asked.deadlocks(1, 0);
        asked.makespanAfter(0, 0);
        asked.makespanAfter(1, 1);
        asked.bestSwap();
        dueUntouched("questions about swaps, which change nothing", asked, used());
        sentence("-1 if there is no swap by which the plan is not deadlocked.");
        due("bestSwap without a shop", new BlockingShop().bestSwap(), -1);
        due("bestSwap of one operation", shopOf(WAITING).bestSwap(), -1);
        due("bestSwap of one operation on each machine", shopOf("shop 2 0;job 0 0 0 op 0 1;job 0 0 0 op 1 1;").bestSwap(), -1);
        String deadlocked = "shop 2 0;job 0 0 0 op 0 1 op 1 1;job 0 0 0 op 0 1 op 1 1;";
        due("bestSwap when each deadlocks", shopOf(deadlocked).bestSwap(), -1);
        due("improve when each deadlocks", shopOf(deadlocked).improve(20), 0);
    }

    private static void improving() {
        sentence("Throws IllegalArgumentException if most is out of range");
        for (int most : new int[] {0, 21, -1, 22, LEAST, GREATEST}) {
            noArgument("improve(" + most + ")", x -> x.improve(most));
        }
        sentence("Makes the best swap again and again, as long as it makes the plan better, but at most a number of times.");
        StringBuilder rising = new StringBuilder("shop 1 0;cost completion*weight;");
        for (int weight = 1; weight <= 6; weight++) {
            rising.append("job 0 0 ").append(weight).append(" op 0 2;");
        }
        for (int most = 1; most <= 20; most++) {
            due("improve(" + most + ") of 15", shopOf(rising.toString()).improve(most), Math.min(most, 15));
        }
        BlockingShop x = shopOf(rising.toString());
        due("improve(1), the least", x.improve(1), 1);
        due("improve(14), just enough", x.improve(14), 14);
        due("improve(20) of the best plan", x.improve(20), 0);
        due("undo of no swap", x.undo(), 3);
        due("undo of 14 swaps at once", x.undo(), 2);
        due("improve(20) from there", x.improve(20), 14);
        String twentySeven = "shop 2 0;machine 0 0 0;machine 1 0 0;cost weight*completion;job 0 0 8 op 0 6 op 1 7;"
                + "job 0 0 5 op 0 3 op 1 8;job 0 0 7 op 1 2;job 0 0 2 op 1 9 op 0 4;job 0 0 4 op 1 1 op 0 3;"
                + "job 0 0 8 op 1 1 op 0 1;";
        BlockingShop atOnce = shopOf(twentySeven);
        BlockingShop steps = shopOf(twentySeven);
        due("improve(20), the greatest, of 27", atOnce.improve(20), 20);
        for (int step = 1; step <= 20; step++) {
            due("improve(1), step " + step, steps.improve(1), 1);
        }
        due("the plan after twenty steps", view(atOnce), view(steps));
        due("improve(20) of the other seven", atOnce.improve(20), 7);
        due("improve without a swap to make", shopOf(WAITING).improve(20), 0);
        due("improve by a swap that makes it no better", shopOf("shop 1 0;job 0 0 0 op 0 5;job 0 0 0 op 0 5;").improve(1), 0);
    }

    // Promises 27 to 29

    private static void placing() {
        sentence("Throws IndexOutOfBoundsException if there is no such job or operation, or if its machine has no such"
                + " position");
        noOperation("place at 0", (x, job, operation) -> x.place(job, operation, 0));
        noOperation("place at -1", (x, job, operation) -> x.place(job, operation, -1));
        int[][] places = {{0, 0, 2}, {2, 0, 3}, {2, 1, 1}};
        for (int[] place : places) {
            for (int position : new int[] {-1, place[2], place[2] + 1, 6, LEAST, GREATEST}) {
                noIndex("place at " + position, x -> x.place(place[0], place[1], position));
            }
        }
        for (int far : FAR) {
            noIndex("place(" + far + ")", x -> x.place(far, far, far));
        }
        sentence("Throws IllegalStateException if the plan would be deadlocked");
        noState("place(1, 0, 0)", x -> x.place(1, 0, 0));
        noState("place(0, 0, 1)", x -> x.place(0, 0, 1));
        noState("place(1, 1, 0), of which the first step would be free", x -> x.place(1, 1, 0));
        sentence("Places an operation at a position on its machine; the other operations on it keep their order.");
        for (int from = 0; from < 6; from++) {
            for (int to = 0; to < 6; to++) {
                BlockingShop x = shopOf("shop 2 0;" + "job 0 0 0 op 1 1;".repeat(6));
                due("place from " + from + " to " + to, x.place(from, 0, to), 6);
                due("its position then", x.operation(from, 0, 2), to);
                int other = 0;
                for (int position = 0; position < 6; position++) {
                    if (position != to) {
                        other += other == from ? 1 : 0;
                        due("orderAt " + position + ", from " + from + " to " + to, x.orderAt(1, position), 10 * other);
                        other++;
                    }
                }
                due("undo of it", x.undo(), 1);
                due("its position then", x.operation(from, 0, 2), from);
            }
        }
        due("place of the only operation", used().place(2, 1, 0), 22);
    }

    private static void durations() {
        sentence("Throws IndexOutOfBoundsException if there is no such job or operation");
        noOperation("setDuration to 1", (x, job, operation) -> x.setDuration(job, operation, 1));
        sentence("Throws IllegalArgumentException if duration is out of range");
        for (int duration : new int[] {0, 100, -1, 101, LEAST, GREATEST, 257, 65537}) {
            noArgument("setDuration to " + duration, x -> x.setDuration(0, 0, duration));
            noArgument("setDuration to " + duration, x -> x.setDuration(2, 1, duration));
        }
        sentence("If several exceptions apply to a call, the one that is listed first with the method is thrown.");
        noOperation("setDuration to 0", (x, job, operation) -> x.setDuration(job, operation, 0));
        noOperation("setDuration to 100", (x, job, operation) -> x.setDuration(job, operation, 100));
        sentence("Returns the previous duration.");
        BlockingShop x = used();
        due("setDuration to the least", x.setDuration(2, 1, 1), 8);
        due("completion then", x.completion(2), 15);
        due("setDuration to the greatest", x.setDuration(2, 1, 99), 1);
        due("completion then", x.completion(2), 113);
        due("setDuration to the same", x.setDuration(2, 1, 99), 99);
    }

    private static void restarting() {
        sentence("Goes back to the first plan (with the present durations).");
        BlockingShop x = shopOf(USED);
        x.swap(1, 1);
        x.place(2, 0, 0);
        x.setDuration(0, 1, 9);
        BlockingShop direct = shopOf(USED);
        direct.setDuration(0, 1, 9);
        due("restart", x.restart(), direct.makespan());
        due("the plan then", view(x), view(direct));
        due("restart of the first plan", x.restart(), direct.makespan());
        due("undo of it", x.undo(), 5);
        due("the duration after undo", x.operation(0, 1, 1), 9);
        due("restart without a shop", new BlockingShop().restart(), 0);
    }

    // Promise 30

    private static void changesThatAlterNothing() {
        sentence("The changing methods are load (when it succeeds), swap, improve, place, setDuration and restart.");
        BlockingShop x = shopOf(USED);
        String before = view(x);
        x.improve(20);
        x.place(1, 0, 1);
        x.setDuration(0, 0, 3);
        x.restart();
        load(x, USED);
        due("the data after changes that alter nothing", view(x), before);
        for (int left = 5; left >= 0; left--) {
            due("undo of such a change, then of the first load", x.undo(), left);
        }
        due("undo of nothing", x.undo(), -1);
    }

    private static void countedChanges() {
        sentence("The changing methods are load (when it succeeds), swap, improve, place, setDuration and restart.");
        BlockingShop x = shopOf(USED);
        x.swap(1, 1);
        x.improve(1);
        x.place(2, 0, 0);
        x.setDuration(0, 0, 4);
        x.restart();
        load(x, WAITING);
        load(x, "shop 7 0;");
        x.bestSwap();
        x.checksum();
        appendBlanks(x);
        dueThrow("setDuration to 0", IllegalArgumentException.class, () -> x.setDuration(0, 0, 0));
        due("undo of load", x.undo(), 6);
        due("the shop of before", x.jobCount(), 3);
        due("undo of restart", x.undo(), 5);
        due("the order of before", x.orderAt(1, 0), 20);
        due("undo of setDuration", x.undo(), 4);
        due("the duration of before", x.operation(0, 0, 1), 3);
        due("undo of place", x.undo(), 3);
        due("undo of improve", x.undo(), 2);
        due("the order of before", x.orderAt(1, 1), 20);
        due("undo of swap", x.undo(), 1);
        due("the order of before", x.orderAt(1, 1), 11);
        due("undo of the first load", x.undo(), 0);
        due("the jobs of before", x.jobCount(), 0);
        due("undo of nothing", x.undo(), -1);
        due("undo of nothing, again", x.undo(), -1);
    }

    private static void latestChanges() {
        sentence("The latest 8 changes that have not been undone can be undone, the latest one first.");
        for (int changes = 0; changes <= 25; changes++) {
            BlockingShop x = shopOf(USED);
            for (int change = 1; change <= changes; change++) {
                x.setDuration(0, 0, 10 + change);
            }
            int kept = Math.min(8, changes + 1);
            for (int left = kept - 1; left >= 0; left--) {
                due("undo with " + left + " left of " + (changes + 1), x.undo(), left);
                int change = changes + 1 - kept + left;
                due("the duration then", x.jobCount() == 0 ? 0 : x.operation(0, 0, 1), duration(change));
            }
            due("undo beyond", x.undo(), -1);
        }
        BlockingShop x = shopOf(USED);
        for (int change = 1; change <= 8; change++) {
            x.setDuration(0, 0, 10 + change);
        }
        due("undo of the ninth change", x.undo(), 7);
        due("undo of the eighth change", x.undo(), 6);
        x.restart();
        due("undo of one that came after these", x.undo(), 6);
        due("the duration then", x.operation(0, 0, 1), 16);
        x.setDuration(0, 0, 50);
        x.setDuration(0, 0, 51);
        x.setDuration(0, 0, 52);
        for (int left = 7; left >= 0; left--) {
            due("undo, eight again", x.undo(), left);
        }
        due("undo beyond them", x.undo(), -1);
        due("the duration before them", x.operation(0, 0, 1), 11);
    }

    /** The duration after so many changes of which the first is the load: 0 without a shop. */
    private static int duration(int change) {
        return change == 0 ? 0 : change == 1 ? 3 : 9 + change;
    }

    /** An object of which the latest eight of ten changes were undone; the two before them can't be. */
    private static BlockingShop undoneEight() {
        BlockingShop shop = shopOf(USED);
        shop.place(2, 0, 0);
        for (int change = 0; change < 8; change++) {
            shop.setDuration(0, 0, 20 + change);
        }
        for (int change = 0; change < 8; change++) {
            shop.undo();
        }
        return shop;
    }

    private static void undoing() {
        sentence("-1 if there was none to undo, and nothing changes then.");
        BlockingShop x = used();
        BlockingShop twin = used();
        for (int left = 2; left >= 0; left--) {
            due("undo", x.undo(), left);
            twin.undo();
        }
        due("undo of nothing", x.undo(), -1);
        dueUntouched("undo of nothing", x, twin);
        BlockingShop full = undoneEight();
        BlockingShop fullTwin = undoneEight();
        due("undo beyond eight", full.undo(), -1);
        dueUntouched("undo beyond eight", full, fullTwin);
        sentence("The input buffer and the error offset are not affected.");
        BlockingShop kept = used();
        due("undo", kept.undo(), 2);
        due("errorOffset", kept.errorOffset(), 4);
        due("load of the buffer", kept.load(40), 1);
        due("its duration", kept.operation(0, 0, 1), 7);
        due("undo of the load", kept.undo(), 2);
        due("errorOffset of the load that was undone", kept.errorOffset(), -1);
        due("the buffer, which stays empty", appendBlanks(kept), 20);
    }

    // Promise 31 and the last call

    private static void checksums() {
        sentence("wrapping around on overflow of a long");
        due("checksum without a shop", new BlockingShop().checksum(), 0);
        BlockingShop one = shopOf("shop 6 0;job 7 0 0 op 5 9;cost 4;");
        due("checksum of one operation", one.checksum(), ((16L * 31 + 4) * 31 + 0) * 31 + 7);
        BlockingShop full = shopOf("shop 6 0;" + "job 999 0 0 op 0 99 op 1 99 op 2 99 op 3 99 op 4 99 op 5 99;".repeat(6)
                + "cost (0-9999)*9999;");
        java.math.BigInteger sum = java.math.BigInteger.valueOf(full.makespan() * 31L - 6000000);
        java.math.BigInteger factor = java.math.BigInteger.valueOf(31);
        for (int machine = 0; machine < 6; machine++) {
            for (int position = 0; position < 6; position++) {
                sum = sum.multiply(factor).add(java.math.BigInteger.valueOf(10 * position + machine));
            }
        }
        for (int job = 0; job < 6; job++) {
            for (int operation = 0; operation < 6; operation++) {
                sum = sum.multiply(factor).add(java.math.BigInteger.valueOf(999 + 99 * (job + operation)));
            }
        }
        due("checksum, wrapped around", full.checksum(), sum.longValue());
        due("whether it is wrapped around", sum.bitLength() > 63, true);
    }

    private static void lastCall() {
        sentence("An object is used for at most 512 calls after it has been made");
        BlockingShop changed = new BlockingShop();
        load(changed, USED);
        for (int call = 7; call <= 510; call++) {
            due("setDuration, call " + call, changed.setDuration(2, 1, call % 99 + 1), call == 7 ? 8 : (call - 1) % 99 + 1);
        }
        due("undo, call 511", changed.undo(), 7);
        due("completion, call 512", changed.completion(2), 18 + 509 % 99 + 1);
        BlockingShop loaded = new BlockingShop();
        for (int load = 0; load < 170; load++) {
            put(loaded, WAITING);
            due("load " + load, loaded.load(40), 1);
        }
        due("undo, call 511", loaded.undo(), 7);
        due("makespan, call 512", loaded.makespan(), 12);
    }

    public static void main(String[] args) {
        newObject();
        refusalsWithoutShop();
        appending();
        loadLengths();
        loading();
        errorOffsets();
        questionsOfJobs();
        questionsOfMachines();
        questionsOfPath();
        swaps();
        improving();
        placing();
        durations();
        restarting();
        changesThatAlterNothing();
        countedChanges();
        latestChanges();
        undoing();
        checksums();
        lastCall();
        finish("all edges of the calls hold");
    }
}
