import java.util.function.Consumer;
import java.util.function.Supplier;

/**
 * What the tests share: setup texts, due answers, and calls that are refused. A test extends it, as nothing can be
 * imported statically from a class without a package.
 */
class Checks {
    static final int SYNTAX = BlockingShop.SYNTAX_ERROR;
    static final int RANGE = BlockingShop.OUT_OF_RANGE;
    static final int MANY = BlockingShop.TOO_MANY;
    static final int DEEP = BlockingShop.TOO_DEEP;
    /** Machine 2 has one operation and machine 3 none; to exchange both operations on machine 0 would deadlock. */
    static final String USED = "shop 4 0;job 0 10 1 op 0 3 op 1 4;job 0 20 2 op 0 2 op 1 5;job 1 9 3 op 1 6 op 2 8;";
    /** The text that waits in the buffer of a used shop. */
    static final String WAITING = "shop 1 0;job 5 5 5 op 0 7;";
    private static final int BLANK = 0x20202020;

    private static String sentence = "";
    private static int wrong = 0;

    protected Checks() { }

    /** Names the sentence of the document that the next checks are about. */
    static void sentence(String words) {
        sentence = "\"" + words + "\" ";
    }

    static void due(String what, Object got, Object want) {
        if (!want.equals(got)) {
            wrong++;
            System.out.println(sentence + what + " is " + got + ", due is " + want);
        }
    }

    static void due(String what, long got, long want) {
        due(what, (Object) got, (Object) want);
    }

    static void due(String what, boolean got, boolean want) {
        due(what, (Object) got, (Object) want);
    }

    static void dueThrow(String what, Class<?> want, Runnable call) {
        Class<?> got = null;
        try {
            call.run();
        } catch (RuntimeException e) {
            got = e.getClass();
        }
        if (got != want) {
            wrong++;
            System.out.println(sentence + what + " throws " + got + ", due is " + want);
        }
    }

    /** Tells how the checks ended, and ends the program with 1 if an answer was not the one that is due. */
    static void finish(String allRight) {
        System.out.println(wrong == 0 ? allRight : wrong + " answers are not as promised");
        if (wrong != 0) {
            System.exit(1);
        }
    }

    /** Appends the text, with spaces behind it up to a multiple of 20 bytes. */
    static void put(BlockingShop shop, String text) {
        for (int from = 0; from < text.length(); from += 20) {
            int[] words = new int[5];
            for (int i = 0; i < 20; i++) {
                int sign = from + i < text.length() ? text.charAt(from + i) : ' ';
                words[i / 4] = words[i / 4] << 8 | sign;
            }
            shop.append(words[0], words[1], words[2], words[3], words[4]);
        }
    }

    static int appendBlanks(BlockingShop shop) {
        return shop.append(BLANK, BLANK, BLANK, BLANK, BLANK);
    }

    static int load(BlockingShop shop, String text) {
        put(shop, text);
        return shop.load(text.length());
    }

    static BlockingShop shopOf(String text) {
        BlockingShop shop = new BlockingShop();
        int jobs = load(shop, text);
        due("load of " + text + " with an error at " + shop.errorOffset() + ": whether it answers jobs", jobs >= 1, true);
        return shop;
    }

    static void dueFine(String text, int jobs) {
        BlockingShop shop = new BlockingShop();
        due("load of " + text, load(shop, text), jobs);
        due("errorOffset of " + text, shop.errorOffset(), -1);
    }

    /** Loads the text into a new object and into one with a shop: both keep all their data. */
    static void dueError(String text, int code, int offset) {
        dueErrorIn(new BlockingShop(), -1, text, code, offset);
        dueErrorIn(shopOf(USED), 0, text, code, offset);
    }

    private static void dueErrorIn(BlockingShop shop, int changesLeft, String text, int code, int offset) {
        String before = view(shop);
        due("load of " + text, load(shop, text), code);
        due("errorOffset of " + text, shop.errorOffset(), offset);
        due("the data after " + text, view(shop), before);
        due("append to the emptied buffer after " + text, appendBlanks(shop), 20);
        due("undo after " + text, shop.undo(), changesLeft);
    }

    /** The sign ^ marks the place of the error, and is no part of the text. */
    static void dueErrorAt(String marked, int code) {
        dueError(marked.replace("^", ""), code, marked.indexOf('^'));
    }

    /** An object with a shop, an error offset, three changes after the load (one of them undone), and a full line. */
    static BlockingShop used() {
        BlockingShop shop = shopOf(USED);
        load(shop, "shop!");
        shop.setDuration(2, 0, 7);
        shop.place(2, 0, 1);
        shop.setDuration(0, 0, 9);
        shop.undo();
        put(shop, WAITING);
        return shop;
    }

    /** An object without a shop, with the same text in its buffer. */
    static BlockingShop unused() {
        BlockingShop shop = new BlockingShop();
        put(shop, WAITING);
        return shop;
    }

    /** Makes the call on a used object: it must throw this exception and change nothing. */
    static void refused(String what, Class<?> want, Consumer<BlockingShop> call) {
        refused(what, want, Checks::used, call);
    }

    static void refused(String what, Class<?> want, Supplier<BlockingShop> maker, Consumer<BlockingShop> call) {
        BlockingShop shop = maker.get();
        dueThrow(what, want, () -> call.accept(shop));
        dueUntouched(what, shop, maker.get());
    }

    static void noIndex(String what, Consumer<BlockingShop> call) {
        refused(what, IndexOutOfBoundsException.class, call);
    }

    static void noArgument(String what, Consumer<BlockingShop> call) {
        refused(what, IllegalArgumentException.class, call);
    }

    static void noState(String what, Consumer<BlockingShop> call) {
        refused(what, IllegalStateException.class, call);
    }

    /** Both objects must tell the same, have the same bytes in the buffer and the same changes to undo. */
    static void dueUntouched(String what, BlockingShop shop, BlockingShop twin) {
        due("errorOffset after " + what, shop.errorOffset(), twin.errorOffset());
        due("the data after " + what, view(shop), view(twin));
        int appended = appendBlanks(twin);
        due("append after " + what, appendBlanks(shop), appended);
        int length = appended < 0 ? 900 : appended;
        due("load of the buffer after " + what, shop.load(length), twin.load(length));
        due("the loaded data after " + what, view(shop), view(twin));
        for (int left = 8; left >= 0; left--) {
            due("undo after " + what, shop.undo(), twin.undo());
            due("the data before the change, after " + what, brief(shop), brief(twin));
        }
    }

    /** All that the object tells of its shop and plan. */
    static String view(BlockingShop shop) {
        StringBuilder view = new StringBuilder(brief(shop));
        view.append(" costs ").append(shop.planCost()).append(" best ").append(shop.bestSwap()).append(" path");
        for (int k = 0; k < shop.criticalLength(); k++) {
            view.append(' ').append(shop.critical(k));
        }
        view.append(" blocks ").append(shop.blockCount()).append(' ').append(shop.longestBlock());
        for (int machine = 0; machine < shop.machineCount(); machine++) {
            view.append(" machine ").append(shop.blockedTime(machine)).append(':');
            int length = shop.orderLength(machine);
            for (int position = 0; position < length; position++) {
                view.append(' ').append(shop.orderAt(machine, position));
                if (position < length - 1) {
                    view.append(" or ").append(shop.deadlocks(machine, position));
                    view.append(' ').append(shop.makespanAfter(machine, position));
                }
            }
        }
        for (int job = 0; job < shop.jobCount(); job++) {
            view.append(" job ").append(shop.completion(job)).append(' ').append(shop.jobCost(job)).append(':');
            for (int operation = 0; operation < shop.operationCount(job); operation++) {
                view.append(' ').append(shop.operation(job, operation, 0));
                view.append('/').append(shop.operation(job, operation, 2));
                view.append('/').append(shop.start(job, operation));
                view.append('/').append(shop.leave(job, operation));
            }
        }
        return view.toString();
    }

    /** Enough to tell one plan from another, in few calls, as an object stands 512 of them. */
    static String brief(BlockingShop shop) {
        StringBuilder view = new StringBuilder("shop ");
        view.append(shop.machineCount()).append(' ').append(shop.checksum()).append(" durations");
        for (int job = 0; job < shop.jobCount(); job++) {
            for (int operation = 0; operation < shop.operationCount(job); operation++) {
                view.append(' ').append(shop.operation(job, operation, 1));
            }
        }
        return view.toString();
    }
}
