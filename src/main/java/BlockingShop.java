import java.util.Arrays;
import java.util.NoSuchElementException;

/**
 * Plans of a job shop without buffers: an operation stays on its machine until the next operation of its job starts,
 * so it can block the machine. Plans are orders of the operations on the machines, which are changed by swaps and
 * tested for deadlocks.
 */
public final class BlockingShop {
    public static final int SYNTAX_ERROR = -2;
    public static final int OUT_OF_RANGE = -3;
    public static final int TOO_MANY = -4;
    public static final int TOO_DEEP = -5;

    private static final int MOST_BYTES = 900;
    private static final int BYTES_OF_APPEND = 20;
    private static final int MOST_CHANGES = 8;
    private static final int MOST_SWAPS = 20;
    private static final int MOST_DURATION = 99;
    /** The greatest number of machines, of jobs, of operations of a job, and so of operations on a machine. */
    private static final int MOST = 6;
    private static final int MOST_OPERATIONS = MOST * MOST;

    /** Its text is the input buffer. */
    private final SetupReader reader = new SetupReader();
    private int buffered = 0;
    private int errorAt = -1;
    private final Schedule schedule;
    private final Plan plan;
    /** A plan to try changes on, so that a change that would deadlock leaves the present plan as it is. */
    private final Schedule trialSchedule;
    private final Plan trialPlan;
    /** The plans before the latest changes, in a ring: the oldest one is at oldestChange. */
    private final Plan[] history = new Plan[MOST_CHANGES];
    private int oldestChange = 0;
    private int changes = 0;

    public BlockingShop() {
        Shop noShop = new Shop();
        schedule = new Schedule(noShop);
        plan = schedule.plan;
        trialSchedule = new Schedule(noShop);
        trialPlan = trialSchedule.plan;
        for (int i = 0; i < MOST_CHANGES; i++) {
            history[i] = new Plan(noShop);
        }
    }

    public int append(int w0, int w1, int w2, int w3, int w4) {
        if (buffered > MOST_BYTES - BYTES_OF_APPEND) {
            return -1;
        }
        putWord(buffered, w0);
        putWord(buffered + 4, w1);
        putWord(buffered + 8, w2);
        putWord(buffered + 12, w3);
        putWord(buffered + 16, w4);
        buffered += BYTES_OF_APPEND;
        return buffered;
    }

    private void putWord(int at, int word) {
        if (at < 0 || at > MOST_BYTES - 4) {
            return;
        }
        reader.text[at] = (byte) (word >>> 24);
        reader.text[at + 1] = (byte) (word >>> 16);
        reader.text[at + 2] = (byte) (word >>> 8);
        reader.text[at + 3] = (byte) word;
    }

    public int load(int length) throws IllegalArgumentException {
        if (length < 0 || length > buffered) {
            throw new IllegalArgumentException("the buffer has no such length");
        }
        buffered = 0;
        Shop shop = new Shop();
        reader.readInto(shop, length);
        errorAt = reader.errorAt;
        if (reader.error != 0) {
            return reader.error;
        }
        remember();
        plan.begin(shop);
        schedule.compute();
        return shop.jobs;
    }

    public int errorOffset() {
        return errorAt;
    }

    public int machineCount() {
        return plan.shop.machines;
    }

    public int jobCount() {
        return plan.shop.jobs;
    }

    public int operationCount(int job) throws IndexOutOfBoundsException {
        needJob(job);
        return plan.shop.operations[job];
    }

    public int operation(int job, int operation, int what) throws IndexOutOfBoundsException, IllegalArgumentException {
        needOperation(job, operation);
        int id = idOf(job, operation);
        switch (what) {
            case 0:
                return plan.shop.machineOf[id];
            case 1:
                return plan.duration[id];
            case 2:
                return plan.positionOf(id);
            default:
                throw new IllegalArgumentException("what is not 0 to 2");
        }
    }

    public int orderLength(int machine) throws IndexOutOfBoundsException {
        needMachine(machine);
        return plan.shop.users[machine];
    }

    public int orderAt(int machine, int position) throws IndexOutOfBoundsException {
        needMachine(machine);
        if (position < 0 || position >= plan.shop.users[machine]) {
            throw new IndexOutOfBoundsException("no such position");
        }
        return codeOf(plan.order[machine * MOST + position]);
    }

    public int start(int job, int operation) throws IndexOutOfBoundsException {
        needOperation(job, operation);
        return schedule.starts[idOf(job, operation)];
    }

    public int leave(int job, int operation) throws IndexOutOfBoundsException {
        needOperation(job, operation);
        return schedule.leaveOf(job, operation);
    }

    public int completion(int job) throws IndexOutOfBoundsException {
        needJob(job);
        return schedule.completionOf(job);
    }

    public int makespan() {
        return schedule.greatestCompletion();
    }

    public int jobCost(int job) throws IndexOutOfBoundsException {
        needJob(job);
        return schedule.costOf(job);
    }

    public int planCost() {
        return schedule.costOfAll();
    }

    public int blockedTime(int machine) throws IndexOutOfBoundsException {
        needMachine(machine);
        int sum = 0;
        for (int position = 0; position < plan.shop.users[machine]; position++) {
            int id = plan.order[machine * MOST + position];
            sum += schedule.leaveOf(id / MOST, id % MOST) - schedule.completedAt(id);
        }
        return sum;
    }

    public int criticalLength() {
        schedule.traceCriticalPath();
        return schedule.pathLength;
    }

    public int critical(int k) throws NoSuchElementException {
        schedule.traceCriticalPath();
        if (k < 0 || k >= schedule.pathLength) {
            throw new NoSuchElementException("the critical path has no such index");
        }
        return codeOf(schedule.path[k]);
    }

    public int blockCount() {
        schedule.traceCriticalPath();
        int blocks = 0;
        for (int k = 0; k < schedule.pathLength; k++) {
            if (!schedule.continuesBlock(k)) {
                blocks++;
            }
        }
        return blocks;
    }

    public int longestBlock() {
        schedule.traceCriticalPath();
        int longest = 0;
        int length = 0;
        for (int k = 0; k < schedule.pathLength; k++) {
            length = schedule.continuesBlock(k) ? length + 1 : 1;
            longest = Math.max(longest, length);
        }
        return longest;
    }

    public boolean deadlocks(int machine, int position) throws IndexOutOfBoundsException {
        needSwap(machine, position);
        return !trySwap(machine, position);
    }

    public int makespanAfter(int machine, int position) throws IndexOutOfBoundsException {
        needSwap(machine, position);
        return trySwap(machine, position) ? trialSchedule.greatestCompletion() : -1;
    }

    public int bestSwap() {
        int best = -1;
        int bestMakespan = 0;
        int bestCost = 0;
        for (int machine = 0; machine < plan.shop.machines; machine++) {
            for (int position = 0; position < plan.shop.users[machine] - 1; position++) {
                if (!trySwap(machine, position)) {
                    continue;
                }
                if (best < 0 || trialSchedule.isBetterThan(bestMakespan, bestCost)) {
                    best = 100 * machine + position;
                    bestMakespan = trialSchedule.greatestCompletion();
                    bestCost = trialSchedule.costOfAll();
                }
            }
        }
        return best;
    }

    public int swap(int machine, int position) throws IndexOutOfBoundsException, IllegalStateException {
        needSwap(machine, position);
        if (!trySwap(machine, position)) {
            throw new IllegalStateException("the swap would deadlock the plan");
        }
        remember();
        adoptTrial();
        return schedule.greatestCompletion();
    }

    public int improve(int most) throws IllegalArgumentException {
        if (most < 1 || most > MOST_SWAPS) {
            throw new IllegalArgumentException("most is not 1 to 20");
        }
        remember();
        for (int made = 0; made < most; made++) {
            int best = bestSwap();
            if (best < 0 || !trySwap(best / 100, best % 100) || !trialSchedule.isBetterThan(makespan(), planCost())) {
                return made;
            }
            adoptTrial();
        }
        return most;
    }

    public int place(int job, int operation, int position) throws IndexOutOfBoundsException, IllegalStateException {
        needOperation(job, operation);
        int id = idOf(job, operation);
        int machine = plan.shop.machineOf[id];
        if (position < 0 || position >= plan.shop.users[machine]) {
            throw new IndexOutOfBoundsException("its machine has no such position");
        }
        trialPlan.copyFrom(plan);
        trialPlan.move(machine, plan.positionOf(id), position);
        if (!trialSchedule.compute()) {
            throw new IllegalStateException("the plan would be deadlocked");
        }
        remember();
        adoptTrial();
        return schedule.greatestCompletion();
    }

    public int setDuration(int job, int operation, int duration)
            throws IndexOutOfBoundsException, IllegalArgumentException {
        needOperation(job, operation);
        if (duration < 1 || duration > MOST_DURATION) {
            throw new IllegalArgumentException("the duration is not 1 to 99");
        }
        int id = idOf(job, operation);
        int previous = plan.duration[id];
        remember();
        // No test for a deadlock: only arcs without a duration can have the length 0, so durations decide nothing.
        plan.duration[id] = duration;
        schedule.compute();
        return previous;
    }

    public int restart() {
        remember();
        plan.setFirstOrders();
        schedule.compute();
        return schedule.greatestCompletion();
    }

    public int undo() {
        if (changes <= 0) {
            return -1;
        }
        changes--;
        Plan before = history[(oldestChange + changes) % MOST_CHANGES];
        if (before != null) {
            plan.copyFrom(before);
            schedule.compute();
        }
        return changes;
    }

    public long checksum() {
        long sum = 31L * schedule.greatestCompletion() + schedule.costOfAll();
        for (int machine = 0; machine < plan.shop.machines; machine++) {
            for (int position = 0; position < plan.shop.users[machine]; position++) {
                sum = 31 * sum + codeOf(plan.order[machine * MOST + position]);
            }
        }
        for (int job = 0; job < plan.shop.jobs; job++) {
            for (int operation = 0; operation < plan.shop.operations[job]; operation++) {
                sum = 31 * sum + schedule.starts[idOf(job, operation)];
            }
        }
        return sum;
    }

    private void needMachine(int machine) {
        if (machine < 0 || machine >= plan.shop.machines) {
            throw new IndexOutOfBoundsException("no such machine");
        }
    }

    private void needJob(int job) {
        if (job < 0 || job >= plan.shop.jobs) {
            throw new IndexOutOfBoundsException("no such job");
        }
    }

    private void needOperation(int job, int operation) {
        needJob(job);
        if (operation < 0 || operation >= plan.shop.operations[job]) {
            throw new IndexOutOfBoundsException("no such operation");
        }
    }

    private void needSwap(int machine, int position) {
        needMachine(machine);
        if (position < 0 || position >= plan.shop.users[machine] - 1) {
            throw new IndexOutOfBoundsException("no such two positions");
        }
    }

    /** Keeps the present plan for undo; of more than eight, the oldest one is given up. */
    private void remember() {
        Plan kept = history[(oldestChange + changes) % MOST_CHANGES];
        if (kept != null) {
            kept.copyFrom(plan);
        }
        if (changes < MOST_CHANGES) {
            changes++;
        } else {
            oldestChange = (oldestChange + 1) % MOST_CHANGES;
        }
    }

    /** Makes the trial plan the present plan with one swap more; tells whether it is free of deadlocks. */
    private boolean trySwap(int machine, int position) {
        trialPlan.copyFrom(plan);
        trialPlan.exchange(machine, position);
        return trialSchedule.compute();
    }

    private void adoptTrial() {
        plan.copyFrom(trialPlan);
        schedule.compute();
    }

    /** Rows over all operations have six places for each job, so that a place tells its job and operation. */
    private static int idOf(int job, int operation) {
        return job * MOST + operation;
    }

    private static int codeOf(int id) {
        return 10 * (id / MOST) + id % MOST;
    }

    /** What a setup text says. It is never changed once it is read, so plans share it. */
    private static final class Shop {
        int machines = 0;
        int jobs = 0;
        boolean swapsAllowed = false;
        /** Whether a machine is buffered: so a machine without a statement is blocking. */
        final boolean[] hasBuffer = new boolean[MOST];
        final int[] setupTime = new int[MOST];
        /** The number of operations that need each machine. */
        final int[] users = new int[MOST];
        final int[] release = new int[MOST];
        final int[] due = new int[MOST];
        final int[] weight = new int[MOST];
        final int[] operations = new int[MOST];
        final int[] machineOf = new int[MOST_OPERATIONS];
        final int[] firstDuration = new int[MOST_OPERATIONS];
        /** The cost expression with each operator after its operands. */
        int[] cost = {CostRule.COMPLETION};

        boolean isLast(int id) {
            return id % MOST == operations[id / MOST] - 1;
        }
    }

    /** The data that changes can change: the durations, and the order of the operations on each machine. */
    private static final class Plan {
        Shop shop;
        final int[] duration = new int[MOST_OPERATIONS];
        /** Six places for each machine; those behind its last operation are not used. */
        final int[] order = new int[MOST_OPERATIONS];

        Plan(Shop shop) {
            this.shop = shop;
        }

        void copyFrom(Plan other) {
            shop = other.shop;
            System.arraycopy(other.duration, 0, duration, 0, MOST_OPERATIONS);
            System.arraycopy(other.order, 0, order, 0, MOST_OPERATIONS);
        }

        void begin(Shop newShop) {
            shop = newShop;
            System.arraycopy(newShop.firstDuration, 0, duration, 0, MOST_OPERATIONS);
            setFirstOrders();
        }

        void setFirstOrders() {
            for (int machine = 0; machine < shop.machines; machine++) {
                setFirstOrder(machine);
            }
        }

        private void setFirstOrder(int machine) {
            int position = 0;
            for (int job = 0; job < shop.jobs; job++) {
                for (int operation = 0; operation < shop.operations[job]; operation++) {
                    int id = idOf(job, operation);
                    if (shop.machineOf[id] == machine && position < MOST) {
                        order[machine * MOST + position] = id;
                        position++;
                    }
                }
            }
        }

        int positionOf(int id) {
            int machine = shop.machineOf[id];
            int position = 0;
            while (position < shop.users[machine] - 1 && order[machine * MOST + position] != id) {
                position++;
            }
            return position;
        }

        void exchange(int machine, int position) {
            int at = machine * MOST + position;
            int first = order[at];
            order[at] = order[at + 1];
            order[at + 1] = first;
        }

        void move(int machine, int from, int to) {
            for (int position = from; position < to; position++) {
                exchange(machine, position);
            }
            for (int position = from; position > to; position--) {
                exchange(machine, position - 1);
            }
        }
    }

    /** The times of a plan, and what follows from them: its costs and its critical path. */
    private static final class Schedule {
        final Plan plan;
        final int[] starts = new int[MOST_OPERATIONS];
        /** The machine arc to each operation, which has one at most: its source, or -1, and its length. */
        private final int[] arcSource = new int[MOST_OPERATIONS];
        private final int[] arcLength = new int[MOST_OPERATIONS];
        private final boolean[] settled = new boolean[MOST_OPERATIONS];
        final int[] path = new int[MOST_OPERATIONS];
        int pathLength = 0;
        private final CostRule costRule = new CostRule();

        Schedule(Shop shop) {
            plan = new Plan(shop);
        }

        /**
         * Computes the starts: an operation is settled when the sources of its arcs are. Tells false, and leaves no
         * useful starts, if a cycle that deadlocks the plan keeps some operations from that.
         */
        boolean compute() {
            for (int machine = 0; machine < plan.shop.machines; machine++) {
                setArcs(machine);
            }
            int left = unsettleAll();
            int newlySettled = left;
            for (int round = 0; round < MOST_OPERATIONS && left > 0 && newlySettled > 0; round++) {
                newlySettled = settleSome();
                if (newlySettled == 0 && plan.shop.swapsAllowed) {
                    newlySettled = settleRing();
                }
                left -= newlySettled;
            }
            return left == 0;
        }

        private void setArcs(int machine) {
            Shop shop = plan.shop;
            int setupTime = shop.setupTime[machine];
            int before = -1;
            for (int position = 0; position < shop.users[machine]; position++) {
                int id = plan.order[machine * MOST + position];
                if (before < 0) {
                    arcSource[id] = -1;
                } else if (shop.hasBuffer[machine] || shop.isLast(before)) {
                    arcSource[id] = before;
                    arcLength[id] = plan.duration[before] + setupTime;
                } else {
                    arcSource[id] = before + 1;
                    arcLength[id] = setupTime;
                }
                before = id;
            }
        }

        private int unsettleAll() {
            int count = 0;
            for (int job = 0; job < plan.shop.jobs; job++) {
                for (int operation = 0; operation < plan.shop.operations[job]; operation++) {
                    int id = idOf(job, operation);
                    settled[id] = false;
                    // In a ring, starts are looked at before they are settled: they must not be too late.
                    starts[id] = plan.shop.release[job];
                    count++;
                }
            }
            return count;
        }

        private int settleSome() {
            int count = 0;
            for (int job = 0; job < plan.shop.jobs; job++) {
                for (int operation = 0; operation < plan.shop.operations[job]; operation++) {
                    int id = idOf(job, operation);
                    if (!settled[id] && isReady(id)) {
                        starts[id] = earliestStart(id);
                        settled[id] = true;
                        count++;
                    }
                }
            }
            return count;
        }

        private boolean isReady(int id) {
            return (id % MOST == 0 || settled[id - 1]) && (arcSource[id] < 0 || settled[arcSource[id]]);
        }

        private int earliestStart(int id) {
            int release = plan.shop.release[id / MOST];
            int byJob = id % MOST == 0 ? release : starts[id - 1] + plan.duration[id - 1];
            int byMachine = arcSource[id] < 0 ? release : starts[arcSource[id]] + arcLength[id];
            return Math.max(byJob, byMachine);
        }

        /**
         * Settles a ring, a cycle of machine arcs of length 0: its operations change places and start together. No
         * other cycle has the length 0, as a job arc and an arc of a buffered machine take a duration.
         */
        private int settleRing() {
            for (int job = 0; job < plan.shop.jobs; job++) {
                for (int operation = 0; operation < plan.shop.operations[job]; operation++) {
                    int id = idOf(job, operation);
                    int size = settled[id] ? 0 : sizeOfRing(id);
                    if (size > 0) {
                        startTogether(id, size);
                        return size;
                    }
                }
            }
            return 0;
        }

        /** The number of operations of the ring that an operation is in; 0 without one, or if one waits for its job. */
        private int sizeOfRing(int id) {
            int at = id;
            for (int size = 1; size <= MOST_OPERATIONS; size++) {
                if (at % MOST == 0 || !settled[at - 1] || arcSource[at] < 0 || arcLength[at] > 0) {
                    return 0;
                }
                at = arcSource[at];
                if (at == id) {
                    return size;
                }
            }
            return 0;
        }

        private void startTogether(int id, int size) {
            int time = 0;
            int at = id;
            for (int i = 0; i < size && at >= 0; i++) {
                time = Math.max(time, earliestStart(at));
                at = arcSource[at];
            }
            for (int i = 0; i < size && at >= 0; i++) {
                starts[at] = time;
                settled[at] = true;
                at = arcSource[at];
            }
        }

        int completedAt(int id) {
            return starts[id] + plan.duration[id];
        }

        int leaveOf(int job, int operation) {
            int id = idOf(job, operation);
            if (plan.shop.hasBuffer[plan.shop.machineOf[id]] || plan.shop.isLast(id)) {
                return completedAt(id);
            }
            return starts[id + 1];
        }

        private int lastOf(int job) {
            return job * MOST + plan.shop.operations[job] - 1;
        }

        int completionOf(int job) {
            return completedAt(lastOf(job));
        }

        int greatestCompletion() {
            int greatest = 0;
            for (int job = 0; job < plan.shop.jobs; job++) {
                greatest = Math.max(greatest, completionOf(job));
            }
            return greatest;
        }

        int costOf(int job) {
            return costRule.evaluate(plan.shop, job, completionOf(job));
        }

        int costOfAll() {
            int sum = 0;
            for (int job = 0; job < plan.shop.jobs; job++) {
                sum += costOf(job);
            }
            return sum;
        }

        boolean isBetterThan(int otherMakespan, int otherCost) {
            int ownMakespan = greatestCompletion();
            return ownMakespan < otherMakespan || (ownMakespan == otherMakespan && costOfAll() < otherCost);
        }

        void traceCriticalPath() {
            pathLength = 0;
            int id = criticalEnd();
            for (int k = 0; k < MOST_OPERATIONS && id >= 0 && !isOnPath(id); k++) {
                path[k] = id;
                pathLength = k + 1;
                id = criticalSource(id);
            }
        }

        private int criticalEnd() {
            int makespan = greatestCompletion();
            for (int job = 0; job < plan.shop.jobs; job++) {
                if (completionOf(job) == makespan) {
                    return lastOf(job);
                }
            }
            return -1;
        }

        private boolean isOnPath(int id) {
            for (int k = 0; k < pathLength; k++) {
                if (path[k] == id) {
                    return true;
                }
            }
            return false;
        }

        /** Where the critical path goes from an operation; -1 if it ends there. */
        private int criticalSource(int id) {
            boolean isFirst = id % MOST == 0;
            if (isFirst && starts[id] == plan.shop.release[id / MOST]) {
                return -1;
            }
            if (!isFirst && completedAt(id - 1) == starts[id]) {
                return id - 1;
            }
            return arcSource[id];
        }

        /** Whether the operation at k of the critical path is in the same block as the one at k - 1. */
        boolean continuesBlock(int k) {
            return k > 0 && plan.shop.machineOf[path[k]] == plan.shop.machineOf[path[k - 1]];
        }
    }

    /** Evaluates cost expressions. Their codes are numbers from 0, which stand for themselves, and those named here. */
    private static final class CostRule {
        static final int COMPLETION = -1;
        static final int DUE = -2;
        static final int WEIGHT = -3;
        static final int RELEASE = -4;
        static final int ADD = -5;
        static final int SUBTRACT = -6;
        static final int MULTIPLY = -7;
        static final int DIVIDE = -8;
        private static final int GREATEST = 1000000;
        /** A sum and a term wait at each of five levels (four in parentheses), and one factor is on top. */
        private static final int MOST_WAITING = 11;

        private final int[] waiting = new int[MOST_WAITING];

        int evaluate(Shop shop, int job, int completionTime) {
            int count = 0;
            for (int i = 0; i < shop.cost.length; i++) {
                int code = shop.cost[i];
                if (code <= ADD && count >= 2) {
                    waiting[count - 2] = limit(apply(code, waiting[count - 2], waiting[count - 1]));
                    count--;
                } else if (code > ADD && count < MOST_WAITING) {
                    waiting[count] = valueOf(code, shop, job, completionTime);
                    count++;
                }
            }
            return waiting[0];
        }

        private static int valueOf(int code, Shop shop, int job, int completionTime) {
            switch (code) {
                case COMPLETION:
                    return completionTime;
                case DUE:
                    return shop.due[job];
                case WEIGHT:
                    return shop.weight[job];
                case RELEASE:
                    return shop.release[job];
                default:
                    return code;
            }
        }

        private static long apply(int code, long left, long right) {
            switch (code) {
                case ADD:
                    return left + right;
                case SUBTRACT:
                    return left - right;
                case MULTIPLY:
                    return left * right;
                default:
                    return right == 0 ? 0 : left / right;
            }
        }

        private static int limit(long value) {
            if (value > GREATEST) {
                return GREATEST;
            }
            return value < -GREATEST ? -GREATEST : (int) value;
        }
    }

    /** Reads setup texts: a method for each rule of the grammar, which looks at one token and then goes on. */
    private static final class SetupReader {
        /** The kinds of tokens; any other byte is a token of its own, and its kind is the byte. */
        private static final int NUMBER = -1001;
        private static final int WORD = -1002;
        private static final int END = -1003;
        /** The kind after an error: no rule allows it, so every rule ends by itself. */
        private static final int NONE = -1004;
        private static final int MOST_DEPTH = 4;
        /** Above the range of every number, so the digits behind it can't matter. */
        private static final int TOO_LARGE = 100000;

        final byte[] text = new byte[MOST_BYTES];
        private int textLength = 0;
        private int tokenStart = 0;
        private int tokenEnd = 0;
        private int kind = NONE;
        /** The code of the first error, or 0. */
        int error = 0;
        int errorAt = -1;
        private boolean hasCost = false;
        private final int[] cost = new int[MOST_BYTES];
        private int costLength = 0;

        /** Reads the first bytes of the text into a new shop; if there is an error, the shop is of no use. */
        void readInto(Shop shop, int length) {
            textLength = Math.max(0, Math.min(length, MOST_BYTES));
            tokenEnd = 0;
            error = 0;
            errorAt = -1;
            hasCost = false;
            costLength = 0;
            next();
            readHead(shop);
            // A statement takes a byte at least, so the count of bytes is no limit to the statements.
            for (int i = 0; i < textLength && kind == WORD; i++) {
                if (isWord("job")) {
                    readJob(shop);
                } else if (isWord("machine")) {
                    readMachine(shop);
                } else if (isWord("cost") && !hasCost) {
                    hasCost = true;
                    next();
                    readSum(0);
                }
                // A word that begins no statement, or a second cost, is still the present token and is refused here.
                expect(';');
            }
            if (kind != END || shop.jobs == 0) {
                fail(SYNTAX_ERROR);
            }
            if (hasCost && error == 0) {
                shop.cost = Arrays.copyOf(cost, costLength);
            }
        }

        private void readHead(Shop shop) {
            expectWord("shop");
            shop.machines = readNumber(1, MOST);
            shop.swapsAllowed = readNumber(0, 1) == 1;
            expect(';');
        }

        private void readJob(Shop shop) {
            int job = shop.jobs;
            if (job >= MOST) {
                fail(TOO_MANY);
                return;
            }
            next();
            shop.release[job] = readNumber(0, 999);
            shop.due[job] = readNumber(0, 9999);
            shop.weight[job] = readNumber(0, 99);
            readOperation(shop, job);
            // One more than is allowed, so that the operation beyond the maximum is seen and refused.
            for (int i = 0; i < MOST && isWord("op"); i++) {
                readOperation(shop, job);
            }
            shop.jobs = job + 1;
        }

        private void readOperation(Shop shop, int job) {
            int operation = shop.operations[job];
            if (operation >= MOST) {
                fail(TOO_MANY);
                return;
            }
            expectWord("op");
            if (kind == NUMBER && needsAlready(shop, job, valueOfToken())) {
                fail(OUT_OF_RANGE);
            }
            int machine = readNumber(0, shop.machines - 1);
            shop.machineOf[idOf(job, operation)] = machine;
            shop.firstDuration[idOf(job, operation)] = readNumber(1, MOST_DURATION);
            shop.operations[job] = operation + 1;
            shop.users[machine]++;
        }

        private boolean needsAlready(Shop shop, int job, int machine) {
            for (int operation = 0; operation < shop.operations[job]; operation++) {
                if (shop.machineOf[idOf(job, operation)] == machine) {
                    return true;
                }
            }
            return false;
        }

        private void readMachine(Shop shop) {
            next();
            int machine = readNumber(0, shop.machines - 1);
            shop.hasBuffer[machine] = readNumber(0, 1) == 0;
            shop.setupTime[machine] = readNumber(0, 99);
        }

        private void readSum(int depth) {
            readTerm(depth);
            for (int i = 0; i < textLength && (kind == '+' || kind == '-'); i++) {
                int code = kind == '+' ? CostRule.ADD : CostRule.SUBTRACT;
                next();
                readTerm(depth);
                addToCost(code);
            }
        }

        private void readTerm(int depth) {
            readFactor(depth);
            for (int i = 0; i < textLength && (kind == '*' || kind == '/'); i++) {
                int code = kind == '*' ? CostRule.MULTIPLY : CostRule.DIVIDE;
                next();
                readFactor(depth);
                addToCost(code);
            }
        }

        /** The depth is the number of parentheses that the factor is in. */
        private void readFactor(int depth) {
            if (kind == '(' && depth >= MOST_DEPTH) {
                fail(TOO_DEEP);
            } else if (kind == '(') {
                next();
                readSum(depth + 1);
                expect(')');
            } else if (kind == NUMBER) {
                addToCost(readNumber(0, 9999));
            } else {
                readName();
            }
        }

        private void readName() {
            if (isWord("completion")) {
                addToCost(CostRule.COMPLETION);
            } else if (isWord("due")) {
                addToCost(CostRule.DUE);
            } else if (isWord("weight")) {
                addToCost(CostRule.WEIGHT);
            } else if (isWord("release")) {
                addToCost(CostRule.RELEASE);
            } else {
                fail(SYNTAX_ERROR);
            }
            next();
        }

        private void addToCost(int code) {
            if (costLength < MOST_BYTES) {
                cost[costLength] = code;
                costLength++;
            }
        }

        private int valueOfToken() {
            int value = 0;
            for (int i = tokenStart; i < tokenEnd && value < TOO_LARGE; i++) {
                value = 10 * value + text[i] - '0';
            }
            return value;
        }

        /** Answers least if there is an error, so that what is read can be used as an index all the same. */
        private int readNumber(int least, int greatest) {
            if (kind != NUMBER) {
                fail(SYNTAX_ERROR);
                return least;
            }
            int value = valueOfToken();
            if (value < least || value > greatest) {
                fail(OUT_OF_RANGE);
                return least;
            }
            next();
            return value;
        }

        private void expectWord(String word) {
            if (isWord(word)) {
                next();
            } else {
                fail(SYNTAX_ERROR);
            }
        }

        private void expect(char sign) {
            if (kind == sign) {
                next();
            } else {
                fail(SYNTAX_ERROR);
            }
        }

        private boolean isWord(String word) {
            if (kind != WORD || tokenEnd - tokenStart != word.length()) {
                return false;
            }
            for (int i = 0; i < word.length(); i++) {
                if (text[tokenStart + i] != word.charAt(i)) {
                    return false;
                }
            }
            return true;
        }

        /** Only the first error counts: the tokens are read from left to right, so it has the smallest offset. */
        private void fail(int code) {
            if (error == 0) {
                error = code;
                errorAt = tokenStart;
            }
            kind = NONE;
        }

        private void next() {
            if (error != 0) {
                return;
            }
            while (tokenEnd < textLength && text[tokenEnd] == ' ') {
                tokenEnd++;
            }
            tokenStart = tokenEnd;
            if (tokenEnd >= textLength) {
                kind = END;
                return;
            }
            int first = text[tokenEnd];
            tokenEnd++;
            if (first >= '0' && first <= '9') {
                kind = NUMBER;
                while (tokenEnd < textLength && text[tokenEnd] >= '0' && text[tokenEnd] <= '9') {
                    tokenEnd++;
                }
            } else if (first >= 'a' && first <= 'z') {
                kind = WORD;
                while (tokenEnd < textLength && text[tokenEnd] >= 'a' && text[tokenEnd] <= 'z') {
                    tokenEnd++;
                }
            } else {
                kind = first;
            }
        }
    }
}
