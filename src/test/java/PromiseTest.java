import java.util.NoSuchElementException;

/** For each promise of the document: ordinary calls, the edges that the document names, and wrong calls. */
public final class PromiseTest extends Checks {
    /** The first example: three jobs on two blocking machines, where no cycle of arcs is allowed. */
    private static final String THREE_JOBS =
            "shop 2 0;job 0 10 1 op 0 3 op 1 4;job 0 20 2 op 0 2 op 1 5;job 1 9 3 op 1 6;";
    /** Two jobs that can change places at the same time, with and without leave to do so. */
    private static final String TWO_CROSSING = "job 0 9 1 op 0 2 op 1 3;job 0 9 1 op 1 2 op 0 4;";
    private static final String JOB = "job 1 1 1 op 0 1;";

    private static void due(int promise, String what, long got, long want) {
        due("promise " + promise + ": " + what, got, want);
    }

    private static void noIndex(int promise, String what, Runnable call) {
        dueThrow(promise, what, IndexOutOfBoundsException.class, call);
    }

    private static void noArgument(int promise, String what, Runnable call) {
        dueThrow(promise, what, IllegalArgumentException.class, call);
    }

    private static void noState(int promise, String what, Runnable call) {
        dueThrow(promise, what, IllegalStateException.class, call);
    }

    private static void dueThrow(int promise, String what, Class<?> want, Runnable call) {
        dueThrow("promise " + promise + ": " + what, want, call);
    }

    private static int costOf(String sum) {
        return shopOf("shop 1 0;job 3 5 2 op 0 4;cost " + sum + ";").jobCost(0);
    }

    // promise 1

    private static void newObject() {
        BlockingShop x = new BlockingShop();
        due(1, "machineCount", x.machineCount(), 0);
        due(1, "jobCount", x.jobCount(), 0);
        due(1, "makespan", x.makespan(), 0);
        due(1, "planCost", x.planCost(), 0);
        due(1, "criticalLength", x.criticalLength(), 0);
        due(1, "blockCount", x.blockCount(), 0);
        due(1, "longestBlock", x.longestBlock(), 0);
        due(1, "bestSwap", x.bestSwap(), -1);
        due(1, "checksum", x.checksum(), 0);
        due(1, "errorOffset", x.errorOffset(), -1);
        due(1, "undo", x.undo(), -1);
        noIndex(1, "start(0, 0)", () -> x.start(0, 0));
        noArgument(1, "load(1)", () -> x.load(1));
        due(1, "the first append", x.append(0, 0, 0, 0, 0), 20);
    }

    // promise 2

    private static void append() {
        BlockingShop x = new BlockingShop();
        put(x, THREE_JOBS);
        for (int length = 100; length < 900; length += 20) {
            due(2, "append", x.append(0x20202020, 0x20202020, 0x20202020, 0x20202020, 0x20202020), length);
        }
        due(2, "the 45th append", x.append(0x20202020, 0x20202020, 0x20202020, 0x20202020, 0x2020203b), 900);
        due(2, "the 46th append", x.append(1, 2, 3, 4, 5), -1);
        due(2, "one more append", x.append(1, 2, 3, 4, 5), -1);
        due(2, "load of all 900 bytes, the last one a semicolon", x.load(900), SYNTAX);
        due(2, "errorOffset, that of the last byte", x.errorOffset(), 899);
        due(2, "append after the buffer was emptied", x.append(0, 0, 0, 0, 0), 20);
        BlockingShop y = new BlockingShop();
        y.append(0x73686f70, 0x20312030, 0x3b6a6f62, 0x20302030, 0x20306f70);
        y.append(0x20302037, 0x3bffffff, -1, -1, -1);
        due(2, "load of the bytes as they stand", y.load(25), 1);
        due(2, "its duration", y.operation(0, 0, 1), 7);
    }

    // promises 3 and 4

    private static void loadLengths() {
        BlockingShop x = new BlockingShop();
        noArgument(3, "load(-1)", () -> x.load(-1));
        put(x, THREE_JOBS);
        noArgument(3, "load(81)", () -> x.load(81));
        noArgument(3, "load(least)", () -> x.load(Integer.MIN_VALUE));
        noArgument(3, "load(greatest)", () -> x.load(Integer.MAX_VALUE));
        due(4, "errorOffset after calls that threw", x.errorOffset(), -1);
        due(3, "load of a part", x.load(42 - 8), 1);
        due(3, "its jobs", x.jobCount(), 1);
        noArgument(3, "load of the emptied buffer", () -> x.load(1));
        due(3, "load(0)", x.load(0), SYNTAX);
        due(4, "errorOffset of the empty text", x.errorOffset(), 0);
        noArgument(4, "load(1)", () -> x.load(1));
        due(4, "errorOffset after another throw", x.errorOffset(), 0);
        due(3, "jobs after an error", x.jobCount(), 1);
        put(x, "nonsense");
        due(3, "load of nonsense", x.load(8), SYNTAX);
        noArgument(3, "load after an error, which emptied the buffer", () -> x.load(1));
        due(3, "makespan after an error", x.makespan(), 7);
        due(3, "load of another shop", load(x, "shop 6 1;job 9 0 0 op 5 99;"), 1);
        due(3, "makespan of another shop", x.makespan(), 108);
        due(3, "machines of another shop", x.machineCount(), 6);
        due(4, "errorOffset after it", x.errorOffset(), -1);
        put(x, "shop 12 0;job");
        due(3, "load of a part that ends in a number", x.load(6), SYNTAX);
        due(4, "its errorOffset", x.errorOffset(), 6);
        put(x, "shop 1 0;job");
        due(3, "load of a part that ends in a word", x.load(11), SYNTAX);
        due(4, "its errorOffset", x.errorOffset(), 9);
        put(x, "  ");
        due(3, "load of no byte", x.load(0), SYNTAX);
        due(4, "its errorOffset", x.errorOffset(), 0);
        due(3, "a text of 80 bytes with spaces behind it", load(x, THREE_JOBS + "    "), 3);
    }

    private static void syntaxErrors() {
        dueError("", SYNTAX, 0);
        dueError("   ", SYNTAX, 3);
        dueError("shop", SYNTAX, 4);
        dueError("shop 1", SYNTAX, 6);
        dueError("shop 1 0", SYNTAX, 8);
        dueError("shop 1 0  ", SYNTAX, 10);
        dueError("shop 1 0;", SYNTAX, 9);
        dueError("shop 1 0; ", SYNTAX, 10);
        dueError("shop 1 0;cost 1;", SYNTAX, 16);
        dueError("shop 1 0;" + JOB + ";", SYNTAX, 26);
        dueError("shop 1 0;job 1 1 1 op 0 1", SYNTAX, 25);
        dueError("shop 1 0;job 1 1 1;", SYNTAX, 18);
        dueError("shop 1 0;job 1 1 op 0 1;", SYNTAX, 17);
        dueError("shop 1 0;job 1 1 1 op 0;", SYNTAX, 23);
        dueError("shop 1 0;job 1 1 1 1 op 0 1;", SYNTAX, 19);
        dueError("shop 1 0;job 1 1 1 ops 0 1;", SYNTAX, 19);
        dueError("shop 1 0;job 1 1 1 op 0 1 1;", SYNTAX, 26);
        dueError("shop 1 0;job -1 1 1 op 0 1;", SYNTAX, 13);
        dueError("shop 1 0;jobs 1 1 1 op 0 1;", SYNTAX, 9);
        dueError("shop 1 0;jobz 1 1 1 op 0 1;", SYNTAX, 9);
        dueError("shop 1 0;joba 1 1 1 op 0 1;", SYNTAX, 9);
        dueError("shop 1 0;Job 1 1 1 op 0 1;", SYNTAX, 9);
        dueError("shop 1 0;op 0 1;", SYNTAX, 9);
        dueError("shop 1 0;shop 1 0;", SYNTAX, 9);
        dueError("shopx 1 0;", SYNTAX, 0);
        dueError("sho 1 0;", SYNTAX, 0);
        dueError("shop,1 0;", SYNTAX, 4);
        dueError("shop\t1 0;", SYNTAX, 4);
        dueError("shop 1 0\n;", SYNTAX, 8);
        dueError("shop 1 0;\u00ff", SYNTAX, 9);
        dueError("shop 1 0;\u0000", SYNTAX, 9);
        dueError("shop 1 0;machine 0 1;" + JOB, SYNTAX, 20);
        dueError("shop 1 0;machine 0 1 1 1;" + JOB, SYNTAX, 23);
        dueError("shop 1 0;cost;" + JOB, SYNTAX, 13);
        dueError("shop 1 0;cost 1 2;" + JOB, SYNTAX, 16);
        dueError("shop 1 0;cost (1;" + JOB, SYNTAX, 16);
        dueError("shop 1 0;cost 1);" + JOB, SYNTAX, 15);
        dueError("shop 1 0;cost ();" + JOB, SYNTAX, 15);
        dueError("shop 1 0;cost 1+;" + JOB, SYNTAX, 16);
        dueError("shop 1 0;cost -1;" + JOB, SYNTAX, 14);
        dueError("shop 1 0;cost 1*/2;" + JOB, SYNTAX, 16);
        dueError("shop 1 0;cost duel;" + JOB, SYNTAX, 14);
        dueError("shop 1 0;cost completion completion;" + JOB, SYNTAX, 25);
        dueError("shop 1 0;cost 1;" + JOB + "cost 2;", SYNTAX, 33);
        dueError("shop 1 0;cost 1; cost 2;x", SYNTAX, 17);
        dueError("shop 1 0;cost ((((1(", SYNTAX, 19);
    }

    private static void rangeErrors() {
        dueError("shop 0 0;" + JOB, RANGE, 5);
        dueError("shop 7 0;" + JOB, RANGE, 5);
        dueError("shop 10;" + JOB, RANGE, 5);
        dueError("shop 1 2;" + JOB, RANGE, 7);
        dueError("shop 99999999999999999999 0;" + JOB, RANGE, 5);
        dueError("shop 4294967297 0;" + JOB, RANGE, 5);
        dueError("shop 18446744073709551617 0;" + JOB, RANGE, 5);
        dueError("shop 1 0;job 1000 x", RANGE, 13);
        dueError("shop 1 0;job 999 10000 1 op 0 1;", RANGE, 17);
        dueError("shop 1 0;job 999 9999 100 op 0 1;", RANGE, 22);
        dueError("shop 1 0;job 1 1 1 op 1 1;", RANGE, 22);
        dueError("shop 6 0;job 1 1 1 op 6 1;", RANGE, 22);
        dueError("shop 1 0;job 1 1 1 op 0 0;", RANGE, 24);
        dueError("shop 1 0;job 1 1 1 op 0 100;", RANGE, 24);
        dueError("shop 2 0;job 1 1 1 op 1 1 op 0 1 op 01 1;", RANGE, 36);
        dueError("shop 1 0;job 1 1 1 op 0 1 op 0 1;", RANGE, 29);
        dueError("shop 1 0;machine 1 0 0;" + JOB, RANGE, 17);
        dueError("shop 1 0;machine 0 2 0;" + JOB, RANGE, 19);
        dueError("shop 1 0;machine 0 0 100;" + JOB, RANGE, 21);
        dueError("shop 1 0;cost 10000;" + JOB, RANGE, 14);
        dueError("shop 1 0;cost ((((00010000", RANGE, 18);
    }

    private static void otherErrors() {
        String six = JOB + JOB + JOB + JOB + JOB + JOB;
        dueFine("shop 1 0;" + six, 6);
        dueFine("shop 1 0;" + six + "cost 1;machine 0 0 1;", 6);
        dueError("shop 1 0;" + six + " job", MANY, 112);
        dueError("shop 1 0;" + six + "jobs", SYNTAX, 111);
        String sixOperations = "job 0 0 0 op 0 1 op 1 1 op 2 1 op 3 1 op 4 1 op 5 1";
        dueFine("shop 6 0;" + sixOperations + ";", 1);
        dueError("shop 6 0;" + sixOperations + " op", MANY, 61);
        dueError("shop 6 0;" + sixOperations + "op0 1", MANY, 60);
        dueError("shop 6 0;" + sixOperations + " opx", SYNTAX, 61);
        dueError("shop 1 0;cost (((((1", DEEP, 18);
        dueError("shop 1 0;cost 1+(2*((due-( (", DEEP, 27);
        dueFine("shop 1 0;cost ((((1))))+((((2))));" + JOB, 1);
        dueError("shop 1 0;cost ((((1))))+(((((", DEEP, 28);
        due(3, "SYNTAX_ERROR", SYNTAX, -2);
        due(3, "OUT_OF_RANGE", RANGE, -3);
        due(3, "TOO_MANY", MANY, -4);
        due(3, "TOO_DEEP", DEEP, -5);
    }

    private static void fineTexts() {
        dueFine("shop1 0;job0 0 0op0 1;", 1);
        dueFine("  shop  1  0  ;  job  0  0  0  op  0  1  ;  ", 1);
        dueFine("shop 0000000000000000000001 0;job 0 0 0 op 0 00099;", 1);
        dueFine("shop 6 1;job 999 9999 99 op 5 99;cost 9999;machine 5 0 99;machine 5 1 0;", 1);
        dueFine("shop 1 0;cost(completion+due)*weight/release-0;" + JOB, 1);
        BlockingShop x = shopOf("shop 2 1;machine 0 0 50;job 0 0 0 op 0 2 op 1 9;job 0 0 0 op 0 3;machine 0 1 4;");
        due(3, "a start behind a machine of which the last statement counts", x.start(1, 0), 6);
    }

    // promises 5 to 10

    private static void shopData() {
        BlockingShop x = shopOf(THREE_JOBS);
        due(5, "machineCount", x.machineCount(), 2);
        due(6, "jobCount", x.jobCount(), 3);
        due(7, "operationCount(1)", x.operationCount(1), 2);
        due(7, "operationCount(2)", x.operationCount(2), 1);
        noIndex(7, "operationCount(-1)", () -> x.operationCount(-1));
        noIndex(7, "operationCount(3)", () -> x.operationCount(3));
        due(8, "its machine", x.operation(2, 0, 0), 1);
        due(8, "its duration", x.operation(2, 0, 1), 6);
        due(8, "its position", x.operation(2, 0, 2), 2);
        noIndex(8, "operation(-1, 0, 0)", () -> x.operation(-1, 0, 0));
        noIndex(8, "operation(3, 0, 0)", () -> x.operation(3, 0, 0));
        noIndex(8, "operation(2, 1, 0)", () -> x.operation(2, 1, 0));
        noIndex(8, "operation(2, -1, 0)", () -> x.operation(2, -1, 0));
        noIndex(8, "operation(2, 1, 3)", () -> x.operation(2, 1, 3));
        noArgument(8, "operation(2, 0, 3)", () -> x.operation(2, 0, 3));
        noArgument(8, "operation(2, 0, -1)", () -> x.operation(2, 0, -1));
        due(9, "orderLength(0)", x.orderLength(0), 2);
        due(9, "orderLength(1)", x.orderLength(1), 3);
        noIndex(9, "orderLength(2)", () -> x.orderLength(2));
        noIndex(9, "orderLength(-1)", () -> x.orderLength(-1));
        due(10, "orderAt(1, 0)", x.orderAt(1, 0), 1);
        due(10, "orderAt(1, 1)", x.orderAt(1, 1), 11);
        due(10, "orderAt(1, 2)", x.orderAt(1, 2), 20);
        noIndex(10, "orderAt(1, 3)", () -> x.orderAt(1, 3));
        noIndex(10, "orderAt(0, 2)", () -> x.orderAt(0, 2));
        noIndex(10, "orderAt(0, -1)", () -> x.orderAt(0, -1));
        noIndex(10, "orderAt(2, 0)", () -> x.orderAt(2, 0));
        noIndex(10, "orderAt(-1, 0)", () -> x.orderAt(-1, 0));
        BlockingShop unused = shopOf("shop 3 0;" + JOB);
        due(9, "orderLength of a machine without operations", unused.orderLength(2), 0);
        noIndex(10, "orderAt there", () -> unused.orderAt(2, 0));
    }

    // promises 11 to 17

    private static void times() {
        BlockingShop x = shopOf(THREE_JOBS);
        due(11, "start(0, 0)", x.start(0, 0), 0);
        due(11, "start(0, 1)", x.start(0, 1), 3);
        due(11, "start(1, 0), when machine 0 is left", x.start(1, 0), 3);
        due(11, "start(1, 1)", x.start(1, 1), 7);
        due(11, "start(2, 0)", x.start(2, 0), 12);
        noIndex(11, "start(3, 0)", () -> x.start(3, 0));
        noIndex(11, "start(2, 1)", () -> x.start(2, 1));
        noIndex(11, "start(-1, 0)", () -> x.start(-1, 0));
        noIndex(11, "start(0, -1)", () -> x.start(0, -1));
        due(12, "leave(1, 0), blocked until the next starts", x.leave(1, 0), 7);
        due(12, "leave(1, 1), the last one", x.leave(1, 1), 12);
        noIndex(12, "leave(3, 0)", () -> x.leave(3, 0));
        noIndex(12, "leave(0, 2)", () -> x.leave(0, 2));
        due(13, "completion(0)", x.completion(0), 7);
        due(13, "completion(2)", x.completion(2), 18);
        noIndex(13, "completion(3)", () -> x.completion(3));
        noIndex(13, "completion(-1)", () -> x.completion(-1));
        due(14, "makespan", x.makespan(), 18);
        due(15, "jobCost(1), the completion without a statement", x.jobCost(1), 12);
        noIndex(15, "jobCost(3)", () -> x.jobCost(3));
        noIndex(15, "jobCost(-1)", () -> x.jobCost(-1));
        due(16, "planCost", x.planCost(), 37);
        due(17, "blockedTime(0)", x.blockedTime(0), 2);
        due(17, "blockedTime(1)", x.blockedTime(1), 0);
        noIndex(17, "blockedTime(2)", () -> x.blockedTime(2));
        noIndex(17, "blockedTime(-1)", () -> x.blockedTime(-1));
        BlockingShop first = shopOf("shop 2 0;job 50 0 0 op 0 5;job 2 0 0 op 1 3;");
        due(14, "makespan of the first job", first.makespan(), 55);
        due(11, "start at the release", first.start(1, 0), 2);
    }

    private static void buffersAndSetups() {
        String jobs = "job 0 0 0 op 0 2 op 1 9;job 0 0 0 op 0 3 op 1 1;";
        BlockingShop buffered = shopOf("shop 2 0;" + jobs + "machine 0 0 1;");
        due(11, "a start behind a buffered machine with a setup", buffered.start(1, 0), 3);
        due(12, "leave of a buffered machine", buffered.leave(1, 0), 6);
        due(17, "blockedTime of a buffered machine", buffered.blockedTime(0), 0);
        BlockingShop blocking = shopOf("shop 2 0;" + jobs + "machine 0 1 1;machine 1 1 5;");
        due(11, "a start behind a blocking machine with a setup", blocking.start(1, 0), 3);
        due(11, "a start behind the last operation of a job", blocking.start(1, 1), 16);
        due(12, "leave of a blocking machine", blocking.leave(1, 0), 16);
        due(17, "blockedTime with setup", blocking.blockedTime(0), 10);
    }

    private static void costs() {
        due(15, "completion", costOf("completion"), 7);
        due(15, "due", costOf("due"), 5);
        due(15, "weight", costOf("weight"), 2);
        due(15, "release", costOf("release"), 3);
        due(15, "a number", costOf("9999"), 9999);
        due(15, "left to right", costOf("10-4-3"), 3);
        due(15, "product first", costOf("1+2*3"), 7);
        due(15, "parentheses first", costOf("(1+2)*3"), 9);
        due(15, "division left to right", costOf("100/7*7"), 98);
        due(15, "truncation toward zero", costOf("(0-7)/2"), -3);
        due(15, "division by 0", costOf("9/(due-5)"), 0);
        due(15, "division of 0 by 0", costOf("0/0+4"), 4);
        due(15, "the upper limit", costOf("9999*9999"), 1000000);
        due(15, "the lower limit", costOf("(0-9999)*9999"), -1000000);
        due(15, "the limit of each operation", costOf("9999*9999-9999*9999+9999*100*9999/9999"), 100);
        due(15, "the limit of a sum", costOf("9999*9999+1-1"), 999999);
        due(15, "the limit of a difference", costOf("0-9999*9999-1+1"), -999999);
        due(15, "a product of limits", costOf("(9999*9999)*(9999*9999)"), 1000000);
        due(15, "deep", costOf("1+2*(1+2*(1+2*(1+2*(1+2*completion))))"), 255);
        BlockingShop x = shopOf("shop 1 0;job 0 0 1 op 0 1;job 0 0 1 op 0 1;cost 9999*9999;");
        due(16, "planCost beyond the limit", x.planCost(), 2000000);
        BlockingShop late = shopOf(THREE_JOBS + "cost weight*(completion-due);");
        due(16, "planCost of all jobs", late.planCost(), -3 + 2 * -8 + 3 * 9);
        due(15, "jobCost(2)", late.jobCost(2), 27);
    }

    // promises 18 to 21

    private static void criticalPath() {
        BlockingShop x = shopOf(THREE_JOBS);
        due(18, "criticalLength", x.criticalLength(), 4);
        due(19, "critical(0)", x.critical(0), 20);
        due(19, "critical(1)", x.critical(1), 11);
        due(19, "critical(2), over a machine arc", x.critical(2), 1);
        due(19, "critical(3)", x.critical(3), 0);
        dueThrow(19, "critical(4)", NoSuchElementException.class, () -> x.critical(4));
        dueThrow(19, "critical(-1)", NoSuchElementException.class, () -> x.critical(-1));
        due(20, "blockCount", x.blockCount(), 2);
        due(21, "longestBlock", x.longestBlock(), 3);
        due(20, "blockCount as the first question", shopOf(THREE_JOBS).blockCount(), 2);
        due(21, "longestBlock as the first question", shopOf(THREE_JOBS).longestBlock(), 3);
        due(19, "critical(3) as the first question", shopOf(THREE_JOBS).critical(3), 0);
        BlockingShop equal = shopOf("shop 2 0;job 0 0 0 op 0 5;job 2 0 0 op 1 3;");
        due(19, "critical(0), of the smallest of two jobs", equal.critical(0), 0);
        due(18, "its criticalLength", equal.criticalLength(), 1);
        // The second operation of job 1 starts when job 0 has left machine 0, which is the start of operation 01.
        BlockingShop source = shopOf("shop 2 0;job 0 0 0 op 0 7 op 1 1;job 0 0 0 op 0 9;");
        due(19, "critical(0)", source.critical(0), 10);
        due(19, "critical(1), the source and not the one before it on the machine", source.critical(1), 1);
        due(20, "its blocks", source.blockCount(), 3);
        due(21, "its longest block", source.longestBlock(), 1);
        BlockingShop job = shopOf("shop 2 0;job 0 0 0 op 0 4 op 1 2;job 0 0 0 op 1 5;job 2 0 0 op 0 2 op 1 3;");
        job.place(1, 0, 0);
        job.place(2, 0, 1);
        int[] path = {21, 20, 1, 10};
        for (int k = 0; k < path.length; k++) {
            due(19, "critical, with a first operation that starts after its release", job.critical(k), path[k]);
        }
        due(18, "its criticalLength", job.criticalLength(), path.length);
        // Three operations that change places at the same time, each waiting for the next: a cycle of length 0.
        BlockingShop ring = shopOf("shop 3 1;job 0 0 0 op 0 1 op 1 1;job 0 0 0 op 1 1 op 2 1;job 0 0 0 op 2 5 op 0 1;");
        due(25, "a swap on the way to the ring", ring.swap(1, 0), 8);
        due(25, "a swap into the ring", ring.swap(2, 0), 6);
        int[] ringPath = {1, 11, 21, 20};
        for (int k = 0; k < ringPath.length; k++) {
            due(19, "critical of the ring", ring.critical(k), ringPath[k]);
        }
        due(18, "criticalLength of the ring", ring.criticalLength(), ringPath.length);
        due(20, "blockCount of the ring", ring.blockCount(), 4);
        due(21, "longestBlock of the ring", ring.longestBlock(), 1);
    }

    // promises 22 to 26

    private static void swaps() {
        BlockingShop x = shopOf(THREE_JOBS);
        due(22, "deadlocks(0, 0)", x.deadlocks(0, 0) ? 1 : 0, 1);
        due(22, "deadlocks(1, 1)", x.deadlocks(1, 1) ? 1 : 0, 0);
        due(23, "makespanAfter(0, 0)", x.makespanAfter(0, 0), -1);
        due(23, "makespanAfter(1, 1)", x.makespanAfter(1, 1), 18);
        due(24, "bestSwap", x.bestSwap(), 101);
        due(26, "improve(5), by nothing", x.improve(5), 0);
        int[][] none = {{-1, 0}, {2, 0}, {0, -1}, {0, 1}, {1, 2}, {1, Integer.MAX_VALUE}, {1, Integer.MIN_VALUE},
            {Integer.MAX_VALUE, 0}};
        for (int[] pair : none) {
            noIndex(22, "deadlocks", () -> x.deadlocks(pair[0], pair[1]));
            noIndex(23, "makespanAfter", () -> x.makespanAfter(pair[0], pair[1]));
            noIndex(25, "swap", () -> x.swap(pair[0], pair[1]));
        }
        long before = x.checksum();
        noState(25, "swap(0, 0)", () -> x.swap(0, 0));
        due(25, "checksum after a swap that could not be made", x.checksum(), before);
        due(25, "swap(1, 1)", x.swap(1, 1), 18);
        due(25, "orderAt(1, 1)", x.orderAt(1, 1), 20);
        due(25, "orderAt(1, 2)", x.orderAt(1, 2), 11);
        due(25, "swap(1, 1) back", x.swap(1, 1), 18);
        due(25, "checksum as before", x.checksum(), before);
        due(30, "undo of a swap; load, improve and a swap are left", x.undo(), 3);
        due(30, "orderAt(1, 1) then", x.orderAt(1, 1), 20);
    }

    private static void allowedSwaps() {
        BlockingShop allowed = shopOf("shop 2 1;" + TWO_CROSSING);
        due(22, "a cycle longer than 0 with swaps", allowed.deadlocks(0, 0) ? 1 : 0, 1);
        due(22, "a cycle of length 0 with swaps", allowed.deadlocks(1, 0) ? 1 : 0, 0);
        due(23, "makespanAfter(1, 0)", allowed.makespanAfter(1, 0), 6);
        due(24, "bestSwap", allowed.bestSwap(), 100);
        due(14, "makespan before", allowed.makespan(), 11);
        due(26, "improve(3)", allowed.improve(3), 1);
        due(26, "makespan then", allowed.makespan(), 6);
        due(11, "start(0, 1)", allowed.start(0, 1), 2);
        due(11, "start(1, 1)", allowed.start(1, 1), 2);
        BlockingShop forbidden = shopOf("shop 2 0;" + TWO_CROSSING);
        due(22, "a cycle of length 0 without swaps", forbidden.deadlocks(1, 0) ? 1 : 0, 1);
        due(23, "makespanAfter", forbidden.makespanAfter(1, 0), -1);
        due(24, "bestSwap", forbidden.bestSwap(), -1);
        due(26, "improve(20)", forbidden.improve(20), 0);
        BlockingShop setup = shopOf("shop 2 1;machine 1 1 1;" + TWO_CROSSING);
        due(22, "a cycle with a setup", setup.deadlocks(1, 0) ? 1 : 0, 1);
        BlockingShop buffered = shopOf("shop 2 0;machine 0 0 0;machine 1 0 0;" + TWO_CROSSING);
        due(23, "makespanAfter with buffers", buffered.makespanAfter(1, 0), 6);
    }

    private static void improving() {
        BlockingShop x = shopOf("shop 1 0;job 0 0 9 op 0 5;job 0 0 5 op 0 5;job 0 0 1 op 0 5;cost completion/weight;");
        noArgument(26, "improve(0)", () -> x.improve(0));
        noArgument(26, "improve(21)", () -> x.improve(21));
        noArgument(26, "improve(-1)", () -> x.improve(-1));
        due(16, "planCost before", x.planCost(), 0 + 2 + 15);
        due(24, "bestSwap, of equal makespans the smaller cost", x.bestSwap(), 1);
        due(26, "improve(1)", x.improve(1), 1);
        due(26, "planCost then", x.planCost(), 0 + 10 + 3);
        due(26, "improve(20)", x.improve(20), 2);
        due(26, "planCost at last", x.planCost(), 5 + 2 + 1);
        due(30, "undo of both swaps at once", x.undo(), 2);
        due(30, "planCost", x.planCost(), 13);
        BlockingShop same = shopOf("shop 2 0;job 0 0 0 op 0 5;job 0 0 0 op 0 5;job 0 0 0 op 1 5;job 0 0 0 op 1 5;job 0 0 0 op 1 5;");
        due(24, "bestSwap of equals", same.bestSwap(), 0);
        due(26, "improve of equals", same.improve(20), 0);
        BlockingShop late = shopOf("shop 2 0;job 0 0 0 op 0 5;job 0 0 0 op 1 5;job 0 0 0 op 1 5;job 0 0 0 op 1 5;");
        due(24, "bestSwap of the smallest position", late.bestSwap(), 100);
        StringBuilder falling = new StringBuilder("shop 1 0;cost completion*weight;");
        for (int weight = 1; weight <= 6; weight++) {
            falling.append("job 0 0 ").append(weight).append(" op 0 2;");
        }
        BlockingShop many = shopOf(falling.toString());
        due(26, "improve(20), as often as it helps", many.improve(20), 15);
        due(26, "orderAt(0, 0)", many.orderAt(0, 0), 50);
        many.restart();
        due(26, "improve(4), at most", many.improve(4), 4);
    }

    // promise 27

    private static void places() {
        BlockingShop x = shopOf(THREE_JOBS);
        long before = x.checksum();
        noIndex(27, "place(3, 0, 0)", () -> x.place(3, 0, 0));
        noIndex(27, "place(2, 1, 0)", () -> x.place(2, 1, 0));
        noIndex(27, "place(2, 0, 3)", () -> x.place(2, 0, 3));
        noIndex(27, "place(2, 0, -1)", () -> x.place(2, 0, -1));
        noIndex(27, "place(0, 0, 2)", () -> x.place(0, 0, 2));
        noState(27, "place(1, 0, 0)", () -> x.place(1, 0, 0));
        due(27, "checksum after calls that threw", x.checksum(), before);
        due(27, "place(2, 0, 0)", x.place(2, 0, 0), 16);
        due(27, "orderAt(1, 0)", x.orderAt(1, 0), 20);
        due(27, "orderAt(1, 1)", x.orderAt(1, 1), 1);
        due(27, "orderAt(1, 2)", x.orderAt(1, 2), 11);
        due(27, "place(2, 0, 2), back", x.place(2, 0, 2), 18);
        due(27, "checksum as at first", x.checksum(), before);
        due(27, "place(2, 0, 2), where it is", x.place(2, 0, 2), 18);
        due(30, "undo of it", x.undo(), 3);
    }

    // promises 28 and 29

    private static void durationsAndRestart() {
        BlockingShop x = shopOf(THREE_JOBS);
        noIndex(28, "setDuration(3, 0, 1)", () -> x.setDuration(3, 0, 1));
        noIndex(28, "setDuration(0, 2, 0)", () -> x.setDuration(0, 2, 0));
        noArgument(28, "setDuration(0, 1, 0)", () -> x.setDuration(0, 1, 0));
        noArgument(28, "setDuration(0, 1, 100)", () -> x.setDuration(0, 1, 100));
        due(28, "setDuration(0, 1, 9)", x.setDuration(0, 1, 9), 4);
        due(28, "makespan then", x.makespan(), 23);
        due(28, "setDuration(0, 1, 99)", x.setDuration(0, 1, 99), 9);
        due(28, "setDuration(0, 1, 1)", x.setDuration(0, 1, 1), 99);
        due(28, "operation(0, 1, 1)", x.operation(0, 1, 1), 1);
        x.setDuration(0, 1, 9);
        due(29, "place(2, 0, 0)", x.place(2, 0, 0), 21);
        due(29, "restart, with the present durations", x.restart(), 23);
        due(29, "orderAt(1, 2)", x.orderAt(1, 2), 20);
        due(29, "restart of the first plan", x.restart(), 23);
        due(30, "undo", x.undo(), 7);
        due(30, "undo", x.undo(), 6);
        due(30, "makespan before restart", x.makespan(), 21);
        BlockingShop none = new BlockingShop();
        due(29, "restart without a shop", none.restart(), 0);
        due(30, "undo of it", none.undo(), 0);
    }

    // promise 30

    private static void undoing() {
        BlockingShop x = shopOf(THREE_JOBS);
        long first = x.checksum();
        for (int duration = 11; duration <= 19; duration++) {
            x.setDuration(2, 0, duration);
        }
        for (int left = 7; left >= 0; left--) {
            due(30, "undo", x.undo(), left);
            due(30, "the duration then", x.operation(2, 0, 1), 11 + left);
        }
        due(30, "undo of the ninth change", x.undo(), -1);
        due(30, "the duration then", x.operation(2, 0, 1), 11);
        due(30, "a change", x.setDuration(2, 0, 6), 11);
        due(30, "checksum", x.checksum(), first);
        due(30, "undo of it", x.undo(), 0);
    }

    private static void undoingLoads() {
        BlockingShop x = shopOf(THREE_JOBS);
        long first = x.checksum();
        load(x, "shop 2 1;" + TWO_CROSSING + "cost 1;");
        due(30, "planCost of the second shop", x.planCost(), 2);
        due(30, "an error", load(x, "shop!"), SYNTAX);
        x.append(0, 0, 0, 0, 0);
        due(30, "undo of a load", x.undo(), 1);
        due(30, "checksum of the first shop", x.checksum(), first);
        due(30, "errorOffset", x.errorOffset(), 4);
        due(30, "the buffer", x.append(0, 0, 0, 0, 0), 40);
        due(30, "undo of the first load", x.undo(), 0);
        due(30, "jobCount", x.jobCount(), 0);
        due(30, "makespan", x.makespan(), 0);
        due(30, "undo of nothing", x.undo(), -1);
        noState(30, "a change that throws", () -> {
            x.load(0);
            load(x, THREE_JOBS);
            x.swap(0, 0);
        });
        due(30, "changes without it", x.undo(), 0);
    }

    // promise 31

    private static void checksums() {
        BlockingShop x = shopOf("shop 2 0;job 2 0 0 op 1 3 op 0 4;job 0 0 0 op 0 5;");
        // Machine 0: 01, 10; machine 1: 00. Starts: 2, 5 and 9.
        long[] numbers = {14, 9 + 14, 1, 10, 0, 2, 5, 9};
        long sum = 0;
        for (long number : numbers) {
            sum = 31 * sum + number;
        }
        due(31, "checksum", x.checksum(), sum);
        BlockingShop full = shopOf("shop 6 0;" + "job 9 0 0 op 0 9 op 1 9 op 2 9 op 3 9 op 4 9 op 5 9;".repeat(6));
        sum = 31L * full.makespan() + full.planCost();
        for (int machine = 0; machine < 6; machine++) {
            for (int position = 0; position < 6; position++) {
                sum = 31 * sum + full.orderAt(machine, position);
            }
        }
        for (int job = 0; job < 6; job++) {
            for (int operation = 0; operation < 6; operation++) {
                sum = 31 * sum + full.start(job, operation);
            }
        }
        due(31, "checksum that wraps around", full.checksum(), sum);
    }

    public static void main(String[] args) {
        newObject();
        append();
        loadLengths();
        syntaxErrors();
        rangeErrors();
        otherErrors();
        fineTexts();
        shopData();
        times();
        buffersAndSetups();
        costs();
        criticalPath();
        swaps();
        allowedSwaps();
        improving();
        places();
        durationsAndRestart();
        undoing();
        undoingLoads();
        checksums();
        finish("all promises hold");
    }
}
