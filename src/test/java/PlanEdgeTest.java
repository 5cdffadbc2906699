/**
 * The edges of plans: for each sentence of the document on arcs, deadlocks, times, costs, the critical path and swaps
 * that names one, plans on both of its sides.
 */
public final class PlanEdgeTest extends Checks {
    /** Two jobs that cross; to exchange both operations on machine 1 makes a ring of two arcs of length 0. */
    private static final String CROSSING = "job 0 9 1 op 0 2 op 1 3;job 0 9 1 op 1 2 op 0 4;";
    private static final int[] SETUP_TIMES = {0, 1, 99};

    private static int costOf(String sum) {
        return shopOf("shop 1 0;job 3 5 2 op 0 4;cost " + sum + ";").jobCost(0);
    }

    private static void duePath(String what, BlockingShop shop, int... path) {
        due("criticalLength " + what, shop.criticalLength(), path.length);
        for (int k = 0; k < path.length && k < shop.criticalLength(); k++) {
            due("critical(" + k + ") " + what, shop.critical(k), path[k]);
        }
    }

    private static void dueBlocks(String what, BlockingShop shop, int count, int longest) {
        due("blockCount " + what, shop.blockCount(), count);
        due("longestBlock " + what, shop.longestBlock(), longest);
    }

    private static void dueOrder(String what, BlockingShop shop, int machine, int... order) {
        due("orderLength " + what, shop.orderLength(machine), order.length);
        for (int position = 0; position < order.length; position++) {
            due("orderAt(" + machine + ", " + position + ") " + what, shop.orderAt(machine, position), order[position]);
        }
    }

    // Plans

    private static void positions() {
        sentence("The positions in this order are counted from 0.");
        BlockingShop x = shopOf("shop 2 0;job 0 0 0 op 1 1 op 0 1;job 0 0 0 op 0 1;job 0 0 0 op 0 1 op 1 1;");
        due("the first position", x.operation(0, 1, 2), 0);
        due("the last position", x.operation(2, 0, 2), 2);
        due("the operation at the first position", x.orderAt(0, 0), 1);
        due("the operation at the last position", x.orderAt(0, 2), 20);
        sentence("In the first plan, the operations on each machine are in the order of their jobs.");
        dueOrder("of the first plan", x, 0, 1, 10, 20);
        dueOrder("of the first plan", x, 1, 0, 21);
        BlockingShop full = shopOf("shop 6 0;" + "job 0 0 0 op 5 1 op 4 1 op 3 1 op 2 1 op 1 1 op 0 1;".repeat(6));
        for (int machine = 0; machine < 6; machine++) {
            int last = 5 - machine;
            dueOrder("of a full machine", full, machine, last, 10 + last, 20 + last, 30 + last, 40 + last, 50 + last);
        }
        BlockingShop one = shopOf("shop 6 0;job 0 0 0 op 3 1;");
        dueOrder("of the only operation", one, 3, 0);
        dueOrder("without operations", one, 2);
    }

    private static void arcs() {
        sentence("if the machine is blocking and a is not the last operation of its job, from the next operation of the job"
                + " of a to b, and the length is the setup time of the machine; otherwise from a to b, and the length is the"
                + " duration of a plus the setup time.");
        String waiting = "job 0 0 0 op 1 20;job 0 0 0 op 0 5 op 1 3;job 0 0 0 op 0 2;";
        String last = "job 0 0 0 op 0 5;job 0 0 0 op 0 2;";
        for (int setup : SETUP_TIMES) {
            String blocking = "shop 2 0;machine 0 1 " + setup + ";";
            String buffered = "shop 2 0;machine 0 0 " + setup + ";";
            due("a start behind one that blocks until 20", shopOf(blocking + waiting).start(2, 0), 20 + setup);
            due("a start behind one in the buffer", shopOf(buffered + waiting).start(2, 0), 5 + setup);
            due("a start behind the last one of a job", shopOf(blocking + last).start(1, 0), 5 + setup);
            due("a start behind the last one, buffered", shopOf(buffered + last).start(1, 0), 5 + setup);
        }
        sentence("job arcs: from each operation to the next operation of its job; the length is the duration of the first one");
        BlockingShop chain = shopOf("shop 3 0;machine 0 1 99;machine 1 1 99;machine 2 1 99;job 0 0 0 op 0 1 op 1 99 op 2 7;");
        due("the second start, without a setup", chain.start(0, 1), 1);
        due("the third start", chain.start(0, 2), 100);
    }

    private static void starts() {
        sentence("the start of the first operation of each job is at least its release time");
        BlockingShop early = shopOf("shop 1 0;job 0 0 0 op 0 5;job 4 0 0 op 0 1;");
        due("a start at the release 0", early.start(0, 0), 0);
        due("a start behind the release", early.start(1, 0), 5);
        due("a start at the release, when the machine is free as well", shopOf("shop 1 0;job 0 0 0 op 0 5;job 5 0 0 op 0 1;")
                .start(1, 0), 5);
        due("a start at a release behind the machine", shopOf("shop 1 0;job 0 0 0 op 0 5;job 6 0 0 op 0 1;").start(1, 0), 6);
        due("a start at the greatest release", shopOf("shop 1 0;job 999 0 0 op 0 99;").start(0, 0), 999);
        due("makespan then", shopOf("shop 1 0;job 999 0 0 op 0 99;").makespan(), 1098);
    }

    private static void deadlocks() {
        sentence("A plan is deadlocked if there is a cycle of arcs whose total length is greater than 0, or, if swaps are"
                + " forbidden, if there is any cycle of arcs.");
        due("deadlocks, length 0, allowed", shopOf("shop 2 1;" + CROSSING).deadlocks(1, 0), false);
        due("deadlocks, length 0, forbidden", shopOf("shop 2 0;" + CROSSING).deadlocks(1, 0), true);
        due("deadlocks, length 1 by machine 1", shopOf("shop 2 1;machine 1 1 1;" + CROSSING).deadlocks(1, 0), true);
        due("deadlocks, length 1 by machine 0", shopOf("shop 2 1;machine 0 1 1;" + CROSSING).deadlocks(1, 0), true);
        due("deadlocks, length 99, allowed", shopOf("shop 2 1;machine 0 1 99;" + CROSSING).deadlocks(1, 0), true);
        due("deadlocks, length 1, forbidden", shopOf("shop 2 0;machine 0 1 1;" + CROSSING).deadlocks(1, 0), true);
        due("deadlocks, a job arc in the cycle, allowed", shopOf("shop 2 1;" + CROSSING).deadlocks(0, 0), true);
        due("deadlocks, a job arc in the cycle, forbidden", shopOf("shop 2 0;" + CROSSING).deadlocks(0, 0), true);
        due("deadlocks, one machine with a buffer", shopOf("shop 2 0;machine 0 0 0;" + CROSSING).deadlocks(1, 0), false);
        due("deadlocks, no cycle", shopOf("shop 1 0;job 0 0 0 op 0 1;job 0 0 0 op 0 1;").deadlocks(0, 0), false);
    }

    /** Six jobs of which each has its second operation where the next one has its first one: the greatest ring. */
    private static String ring(int swaps, String statements, int[] durations) {
        StringBuilder text = new StringBuilder("shop 6 " + swaps + ";" + statements);
        for (int job = 0; job < 6; job++) {
            text.append("job 0 0 0 op ").append(job).append(' ').append(durations[job]);
            text.append(" op ").append((job + 1) % 6).append(" 1;");
        }
        return text.toString();
    }

    private static void rings() {
        int[] durations = {1, 2, 3, 9, 4, 5};
        BlockingShop x = shopOf(ring(1, "", durations));
        for (int machine = 1; machine < 5; machine++) {
            x.swap(machine, 0);
        }
        due("deadlocks, six arcs of length 0", x.deadlocks(5, 0), false);
        due("swap into the ring of six", x.swap(5, 0), 10);
        for (int job = 0; job < 6; job++) {
            due("start of a second operation, all together", x.start(job, 1), 9);
            due("leave of a first operation", x.leave(job, 0), 9);
            due("blockedTime", x.blockedTime(job), 9 - durations[job]);
        }
        duePath("of the ring, from the first of six jobs", x, 1, 11, 21, 31, 30);
        due("setDuration in the ring", x.setDuration(5, 0, 99), 5);
        due("makespan of the ring then", x.makespan(), 100);
        BlockingShop forbidden = shopOf(ring(0, "", durations));
        BlockingShop setup = shopOf(ring(1, "machine 4 1 1;", durations));
        for (int machine = 1; machine < 5; machine++) {
            forbidden.swap(machine, 0);
            setup.swap(machine, 0);
        }
        due("deadlocks, six arcs, forbidden", forbidden.deadlocks(5, 0), true);
        due("deadlocks, six arcs, one of length 1", setup.deadlocks(5, 0), true);
    }

    private static void neverDeadlocked() {
        sentence("The present plan is never deadlocked; a change by which it would be deadlocked cannot be made.");
        refused("swap into a ring, forbidden", IllegalStateException.class, () -> shopOf("shop 2 0;" + CROSSING),
                x -> x.swap(1, 0));
        refused("place into a ring, forbidden", IllegalStateException.class, () -> shopOf("shop 2 0;" + CROSSING),
                x -> x.place(1, 0, 0));
        refused("swap into a longer cycle", IllegalStateException.class, () -> shopOf("shop 2 1;" + CROSSING),
                x -> x.swap(0, 0));
        refused("place into a longer cycle", IllegalStateException.class, () -> shopOf("shop 2 1;" + CROSSING),
                x -> x.place(0, 0, 1));
        BlockingShop ring = shopOf("shop 2 1;" + CROSSING);
        due("swap into a ring, allowed", ring.swap(1, 0), 6);
        due("place out of the ring", ring.place(1, 0, 1), 11);
        due("place into the ring", ring.place(1, 0, 0), 6);
        due("restart from the ring", ring.restart(), 11);
    }

    // Times

    private static void leaving() {
        sentence("On a blocking machine it leaves when the next operation of its job starts, if there is one; otherwise it"
                + " leaves when it is completed.");
        String jobs = "job 0 0 0 op 1 20;job 0 0 0 op 0 5 op 1 3;job 30 0 0 op 0 2 op 1 1;";
        BlockingShop blocking = shopOf("shop 2 0;" + jobs);
        due("leave, the next one starts later", blocking.leave(1, 0), 20);
        due("leave, the next one starts at once", blocking.leave(2, 0), 32);
        due("leave of the last one", blocking.leave(1, 1), 23);
        due("leave of the only one", blocking.leave(0, 0), 20);
        BlockingShop buffered = shopOf("shop 2 0;machine 0 0 0;machine 1 0 0;" + jobs);
        due("leave of a buffered machine", buffered.leave(1, 0), 5);
        due("leave of the last one, buffered", buffered.leave(1, 1), 23);
        sentence("the time at which they leave it minus the time at which they are completed.");
        due("blockedTime of the machine that waits", blocking.blockedTime(0), 15);
        due("blockedTime of the machine of last operations", blocking.blockedTime(1), 0);
        due("blockedTime of a buffered machine", buffered.blockedTime(0), 0);
        due("blockedTime of a machine without operations", shopOf("shop 3 0;" + jobs).blockedTime(2), 0);
    }

    private static void makespans() {
        sentence("The completion of a job is that of its last operation.");
        BlockingShop six = shopOf("shop 6 0;job 7 0 0 op 0 1 op 1 1 op 2 1 op 3 1 op 4 1 op 5 99;job 7 0 0 op 5 1;");
        due("completion of the last of six", six.completion(0), 7 + 5 + 99);
        due("completion of the only one", six.completion(1), 112);
        sentence("The makespan is the greatest completion of all jobs.");
        String[] jobs = {"job 0 0 0 op 0 9;", "job 0 0 0 op 1 5;", "job 0 0 0 op 2 5;"};
        due("makespan by the first job", shopOf("shop 3 0;" + jobs[0] + jobs[1] + jobs[2]).makespan(), 9);
        due("makespan by the second job", shopOf("shop 3 0;" + jobs[1] + jobs[0] + jobs[2]).makespan(), 9);
        due("makespan by the last job", shopOf("shop 3 0;" + jobs[1] + jobs[2] + jobs[0]).makespan(), 9);
        due("makespan of one job", shopOf("shop 3 0;" + jobs[1]).makespan(), 5);
        due("the least makespan", shopOf("shop 1 0;job 0 0 0 op 0 1;").makespan(), 1);
    }

    // Costs

    private static void divisions() {
        sentence("Division truncates toward zero.");
        due("7 / 2", costOf("7/2"), 3);
        due("-7 / 2", costOf("(0-7)/2"), -3);
        due("7 / -2", costOf("7/(0-2)"), -3);
        due("-7 / -2", costOf("(0-7)/(0-2)"), 3);
        due("-1 / 2", costOf("(0-1)/2"), 0);
        due("1 / 2", costOf("1/2"), 0);
        sentence("Division by 0 gives 0.");
        due("7 / 0", costOf("7/0"), 0);
        due("0 / 0", costOf("0/0"), 0);
        due("-7 / 0", costOf("(0-7)/0"), 0);
        due("a division by what becomes 0", costOf("9/(due-5)"), 0);
        due("a division by 0 among others", costOf("3+7/0*5-1"), 2);
        due("a division by a division by 0", costOf("7/(7/0)"), 0);
    }

    private static void limits() {
        sentence("The result of each operation is limited to the range -1000000 to 1000000.");
        due("a product at the upper limit", costOf("1000*1000"), 1000000);
        due("a product above it", costOf("1000*1001"), 1000000);
        due("a product below it", costOf("999*1001"), 999999);
        due("a sum at the upper limit", costOf("999*1001+1"), 1000000);
        due("a sum above it", costOf("999*1001+2"), 1000000);
        due("a difference above it", costOf("1000*1000-(0-1)"), 1000000);
        due("a product at the lower limit", costOf("(0-1000)*1000"), -1000000);
        due("a product below the lower limit", costOf("(0-1000)*1001"), -1000000);
        due("a product above the lower limit", costOf("(0-999)*1001"), -999999);
        due("a difference at the lower limit", costOf("(0-999)*1001-1"), -1000000);
        due("a difference below it", costOf("(0-999)*1001-2"), -1000000);
        due("a sum below it", costOf("(0-1000)*1000+(0-1)"), -1000000);
        due("a limited sum with one less", costOf("1000*1000+1-1"), 999999);
        due("a limited difference with one more", costOf("(0-1000)*1000-1+1"), -999999);
        due("a limited product, divided", costOf("9999*9999/1000"), 1000);
        // Without the limit to each operation, these would wrap around in an int.
        due("a product of both limits", costOf("9999*9999*(9999*9999)"), 1000000);
        due("a product of the limits of both signs", costOf("9999*9999*((0-9999)*9999)"), -1000000);
        due("a product of many numbers", costOf("9999" + "*9999".repeat(20)), 1000000);
    }

    private static void costs() {
        sentence("Without a cost statement the cost is the completion.");
        BlockingShop plain = shopOf("shop 1 0;job 3 5 2 op 0 4;job 0 0 0 op 0 4;");
        due("jobCost", plain.jobCost(0), 7);
        due("planCost", plain.planCost(), 7 + 11);
        sentence("In the expression, completion is the completion of the job, and due, weight and release are those of the job.");
        BlockingShop named = shopOf("shop 1 0;job 3 5 2 op 0 4;job 1 8 6 op 0 4;cost completion*100-due*10+weight-release;");
        due("jobCost of the first job", named.jobCost(0), 700 - 50 + 2 - 3);
        due("jobCost of the second job", named.jobCost(1), 1100 - 80 + 6 - 1);
        sentence("The cost of the plan is the sum of the costs of all jobs.");
        String six = "job 0 0 1 op 0 1;".repeat(6);
        due("planCost above the limit of an operation", shopOf("shop 1 0;cost 9999*9999;" + six).planCost(), 6000000);
        due("planCost below it", shopOf("shop 1 0;cost (0-9999)*9999;" + six).planCost(), -6000000);
        due("planCost of 0", shopOf("shop 1 0;cost 0;" + six).planCost(), 0);
    }

    // The critical path

    private static void pathBegins() {
        sentence("The critical path begins at the last operation of the job with the greatest completion (of several, the job"
                + " with the smallest index)");
        duePath("from the greatest", shopOf("shop 3 0;job 0 0 0 op 0 5;job 0 0 0 op 1 6;job 0 0 0 op 2 4;"), 10);
        duePath("from the first of three", shopOf("shop 3 0;job 0 0 0 op 0 5;job 0 0 0 op 1 5;job 0 0 0 op 2 5;"), 0);
        duePath("from the second of three", shopOf("shop 3 0;job 0 0 0 op 0 4;job 0 0 0 op 1 5;job 0 0 0 op 2 5;"), 10);
        duePath("from the last operation", shopOf("shop 6 0;job 0 0 0 op 0 1 op 1 1 op 2 1 op 3 1 op 4 1 op 5 1;"),
                5, 4, 3, 2, 1, 0);
    }

    private static void pathGoesBack() {
        sentence("nowhere (it ends there), if the operation is the first one of its job and s is the release time of the job");
        duePath("that ends at its release", shopOf("shop 1 0;job 7 0 0 op 0 5;"), 0);
        duePath("that ends at its release, when the machine is free as well",
                shopOf("shop 1 0;job 0 0 0 op 0 5;job 5 0 0 op 0 1;"), 10);
        duePath("that goes on behind its release", shopOf("shop 1 0;job 0 0 0 op 0 5;job 4 0 0 op 0 1;"), 10, 0);
        sentence("otherwise to the previous operation of its job, if there is one and its start plus its duration is s");
        duePath("where the machine is free at the same time",
                shopOf("shop 2 0;job 0 0 0 op 0 4;job 0 0 0 op 1 4 op 0 2;"), 11, 10);
        sentence("otherwise to the source of the machine arc whose target the operation is.");
        duePath("where the machine is free a unit later",
                shopOf("shop 2 0;job 0 0 0 op 0 5;job 0 0 0 op 1 4 op 0 2;"), 11, 0);
        String jobs = "job 0 0 0 op 0 7 op 1 1;job 0 0 0 op 0 9;";
        duePath("over a blocking machine, to the next operation", shopOf("shop 2 0;" + jobs), 10, 1, 0);
        duePath("over a buffered machine, to the one before", shopOf("shop 2 0;machine 0 0 0;" + jobs), 10, 0);
        duePath("behind a setup time", shopOf("shop 1 0;machine 0 1 99;job 0 0 0 op 0 1;job 0 0 0 op 0 1;"), 10, 0);
        sentence("It also ends at an operation from which it would go to one that it contains already.");
        BlockingShop ring = shopOf("shop 2 1;job 0 9 1 op 0 2 op 1 4;job 0 9 1 op 1 1 op 0 4;");
        due("swap into a ring", ring.swap(1, 0), 6);
        duePath("of a ring, which it leaves where the first one starts", ring, 1, 0);
        BlockingShop later = shopOf("shop 2 1;job 0 9 1 op 0 1 op 1 4;job 0 9 1 op 1 2 op 0 4;");
        due("swap into a ring", later.swap(1, 0), 6);
        duePath("of a ring, half around", later, 1, 11, 10);
    }

    private static void longestPath() {
        sentence("The critical path");
        StringBuilder text = new StringBuilder("shop 6 0;");
        for (int machine = 0; machine < 6; machine++) {
            text.append("machine ").append(machine).append(" 0 0;");
        }
        String[] jobs = {"op 0 1 op 1 1 op 2 1 op 3 1 op 4 1 op 5 1;", "op 5 1 op 0 1 op 1 1 op 2 1 op 3 1 op 4 1;",
            "op 4 1 op 5 1 op 0 1 op 1 1 op 2 1 op 3 1;", "op 3 1 op 4 1 op 5 1 op 0 1 op 1 1 op 2 1;",
            "op 2 1 op 3 1 op 4 1 op 5 1 op 0 1 op 1 1;", "op 1 1 op 2 1 op 3 1 op 4 1 op 5 1 op 0 1;"};
        for (String job : jobs) {
            text.append("job 0 0 0 ").append(job);
        }
        BlockingShop all = shopOf(text.toString());
        // Each job begins on the machine on which the one before it ends, so all 36 operations follow one another.
        due("makespan of 36 operations in a row", all.makespan(), 36);
        due("criticalLength, the greatest", all.criticalLength(), 36);
        due("critical(0)", all.critical(0), 55);
        due("critical(35)", all.critical(35), 0);
        due("blockCount, as each job begins in the block of the one before", all.blockCount(), 31);
        due("longestBlock", all.longestBlock(), 2);
    }

    private static void blocks() {
        sentence("A block is a longest run of neighbouring operations of the critical path that are on the same machine.");
        dueBlocks("of one operation", shopOf("shop 1 0;job 0 0 0 op 0 1;"), 1, 1);
        dueBlocks("of one run", shopOf("shop 1 0;" + "job 0 0 0 op 0 1;".repeat(6)), 1, 6);
        dueBlocks("without neighbours", shopOf("shop 2 0;job 0 0 0 op 0 7 op 1 1;job 0 0 0 op 0 9;"), 3, 1);
        dueBlocks("of which the first is the longest",
                shopOf("shop 2 0;machine 0 0 0;job 0 0 0 op 1 2 op 0 2;job 0 0 0 op 0 2;job 0 0 0 op 0 2;"), 2, 3);
        dueBlocks("of which the last is the longest",
                shopOf("shop 2 0;job 0 0 0 op 0 2;job 0 0 0 op 0 2;job 0 0 0 op 0 2 op 1 2;"), 2, 3);
        String buffered = "shop 2 0;machine 0 0 0;machine 1 0 0;";
        BlockingShop apart = shopOf(buffered + "job 0 0 0 op 0 2 op 1 2;job 0 0 0 op 1 2 op 0 2;job 0 0 0 op 0 2;");
        duePath("with a machine twice, apart", apart, 20, 11, 10, 1, 0);
        dueBlocks("with a machine twice, apart", apart, 3, 2);
    }

    // Swaps

    private static void betterPlans() {
        sentence("of two plans, the better one is the one with the smaller makespan, of equal makespans the one with the"
                + " smaller cost.");
        // The swap on machine 0 lowers the cost alone; that on machine 1 lowers the makespan and raises the cost.
        BlockingShop makespan = shopOf("shop 2 0;cost weight*completion;job 0 0 0 op 0 5;job 0 0 50 op 0 5;"
                + "job 10 0 9 op 1 1;job 0 0 0 op 1 11;");
        due("planCost before", makespan.planCost(), 500 + 99);
        due("bestSwap, by the makespan", makespan.bestSwap(), 100);
        due("improve by the makespan", makespan.improve(1), 1);
        due("makespan then", makespan.makespan(), 12);
        due("planCost then", makespan.planCost(), 500 + 108);
        due("bestSwap, by the cost", makespan.bestSwap(), 0);
        due("improve by the cost", makespan.improve(20), 1);
        due("planCost then", makespan.planCost(), 250 + 108);
        BlockingShop worse = shopOf("shop 1 0;cost weight*completion;job 0 0 9 op 0 5;job 0 0 1 op 0 5;");
        due("bestSwap, when each makes the plan worse", worse.bestSwap(), 0);
        due("improve, when each makes the plan worse", worse.improve(20), 0);
        due("planCost then", worse.planCost(), 45 + 10);
        BlockingShop longer = shopOf("shop 1 0;cost 0-completion;job 0 0 0 op 0 5;job 3 0 0 op 0 1;");
        due("makespanAfter a swap that lowers the cost alone", longer.makespanAfter(0, 0), 9);
        due("improve, when each makes the makespan greater", longer.improve(20), 0);
    }

    private static void bestOfSeveral() {
        sentence("of several, the one with the smallest machine number, then with the smallest position.");
        String one = "job 0 0 1 op 0 5;";
        String other = "job 0 0 1 op 1 5;";
        due("bestSwap of equals on two machines", shopOf("shop 2 0;" + one + one + other + other).bestSwap(), 0);
        due("bestSwap of equals on two machines, the other way", shopOf("shop 2 0;" + other + other + one + one).bestSwap(), 0);
        due("bestSwap of equals on one machine", shopOf("shop 2 0;" + other.repeat(4)).bestSwap(), 100);
        String falling = "job 0 0 9 op 0 1;job 0 0 5 op 0 1;job 0 0 1 op 0 1;job 0 0 1 op 0 1;";
        String equal = "job 0 0 1 op 1 1;job 0 0 1 op 1 1;";
        due("bestSwap, the smaller machine before the smaller position",
                shopOf("shop 2 0;cost weight*completion;" + falling + equal).bestSwap(), 2);
        due("bestSwap of the greatest numbers", shopOf("shop 6 0;cost weight*completion;job 0 0 9 op 5 1;job 0 0 8 op 5 1;"
                + "job 0 0 7 op 5 1;job 0 0 6 op 5 1;job 0 0 5 op 5 1;job 0 0 5 op 5 1;").bestSwap(), 504);
        sentence("The best swap is the one, of all swaps by which the plan is not deadlocked");
        BlockingShop first = shopOf("shop 2 0;job 0 10 1 op 0 3 op 1 4;job 0 20 2 op 0 2 op 1 5;job 1 9 3 op 1 6;");
        due("deadlocks of the first swap", first.deadlocks(0, 0), true);
        due("bestSwap behind it", first.bestSwap(), 101);
    }

    public static void main(String[] args) {
        positions();
        arcs();
        starts();
        deadlocks();
        rings();
        neverDeadlocked();
        leaving();
        makespans();
        divisions();
        limits();
        costs();
        pathBegins();
        pathGoesBack();
        longestPath();
        blocks();
        betterPlans();
        bestOfSeveral();
        finish("all edges of plans hold");
    }
}
