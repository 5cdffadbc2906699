/**
 * The edges of the setup text: for each sentence of the document on the shop, the grammar and the kinds of errors that
 * names one, texts on both of its sides.
 */
public final class SetupEdgeTest extends Checks {
    private static final String JOB = "job 0 0 0 op 0 1;";
    private static final String SIX_OPERATIONS = "op 0 1 op 1 1 op 2 1 op 3 1 op 4 1 op 5 1";

    /** The cost of a job with this head and one operation of duration 1. */
    private static int costOf(String jobHead, String sum) {
        return shopOf("shop 1 0;job " + jobHead + " op 0 1;cost " + sum + ";").jobCost(0);
    }

    private static int costOf(String sum) {
        return costOf("3 5 2", sum);
    }

    // The shop

    private static void machines() {
        sentence("There are 1 to 6 machines.");
        dueErrorAt("shop ^0 0;" + JOB, RANGE);
        due("machineCount, the least", shopOf("shop 1 0;" + JOB).machineCount(), 1);
        BlockingShop most = shopOf("shop 6 0;job 0 0 0 op 5 1;");
        due("machineCount, the greatest", most.machineCount(), 6);
        due("orderLength of the last machine", most.orderLength(5), 1);
        dueErrorAt("shop ^7 0;" + JOB, RANGE);
    }

    private static void machineKinds() {
        String jobs = "job 0 0 0 op 1 20;job 0 0 0 op 0 5 op 1 3;";
        sentence("A machine is blocking or buffered (blocking without a statement)");
        due("leave of a machine without a statement", shopOf("shop 2 0;" + jobs).leave(1, 0), 20);
        due("leave of a blocking machine", shopOf("shop 2 0;machine 0 1 0;" + jobs).leave(1, 0), 20);
        due("leave of a buffered machine", shopOf("shop 2 0;machine 0 0 0;" + jobs).leave(1, 0), 5);
        sentence("Those of machine are the machine, 1 if it is blocking or 0 if it is buffered, and the setup time");
        dueErrorAt("shop 2 0;machine 0 ^2 0;" + jobs, RANGE);
        dueErrorAt("shop 2 0;machine ^2 0 0;" + jobs, RANGE);
        dueFine("shop 2 0;machine 1 0 0;" + jobs, 2);
        dueErrorAt("shop 6 0;machine ^6 0 0;" + jobs, RANGE);
        dueFine("shop 6 0;machine 5 0 0;" + jobs, 2);
        dueErrorAt("shop 2 0;machine 0 0^;" + jobs, SYNTAX);
        dueErrorAt("shop 2 0;machine 0 0 0 ^0;" + jobs, SYNTAX);
    }

    private static void setupTimes() {
        String jobs = "job 0 0 0 op 0 5;job 0 0 0 op 0 1;";
        sentence("and has a setup time (0 to 99; 0 without a statement).");
        due("a start without a statement", shopOf("shop 1 0;" + jobs).start(1, 0), 5);
        due("a start after the setup time 0", shopOf("shop 1 0;machine 0 1 0;" + jobs).start(1, 0), 5);
        due("a start after the setup time 1", shopOf("shop 1 0;machine 0 1 1;" + jobs).start(1, 0), 6);
        due("a start after the setup time 99", shopOf("shop 1 0;machine 0 1 99;" + jobs).start(1, 0), 104);
        dueErrorAt("shop 1 0;machine 0 1 ^100;" + jobs, RANGE);
    }

    private static void lastStatementOfMachine() {
        String jobs = "job 0 0 0 op 1 20;job 0 0 0 op 0 5 op 1 3;job 0 0 0 op 0 1;";
        sentence("the last statement for a machine counts");
        BlockingShop blocking = shopOf("shop 2 0;machine 0 0 50;machine 1 0 7;" + jobs + "machine 0 1 4;");
        due("leave, as the last one says blocking", blocking.leave(1, 0), 23 + 4);
        due("start, as the last one says 4", blocking.start(2, 0), 27 + 4);
        BlockingShop buffered = shopOf("shop 2 0;machine 0 1 50;" + jobs + "machine 0 1 9;machine 0 0 0;");
        due("leave, as the last one says buffered", buffered.leave(1, 0), 5);
        due("start, as the last one says 0", buffered.start(2, 0), 5);
        StringBuilder many = new StringBuilder("shop 2 0;" + jobs);
        while (many.length() <= 900 - 14) {
            many.append("machine 0 0 9;");
        }
        due("start after as many statements as the buffer takes", shopOf(many.toString()).start(2, 0), 5 + 9);
    }

    private static void swapsAllowed() {
        String crossing = "job 0 0 0 op 0 2 op 1 3;job 0 0 0 op 1 2 op 0 4;";
        sentence("The numbers of shop are the number of machines, and 1 if swaps are allowed or 0 if they are forbidden.");
        due("deadlocks with 1", shopOf("shop 2 1;" + crossing).deadlocks(1, 0), false);
        due("deadlocks with 0", shopOf("shop 2 0;" + crossing).deadlocks(1, 0), true);
        dueErrorAt("shop 2 ^2;" + crossing, RANGE);
        dueErrorAt("shop 2^;" + crossing, SYNTAX);
        dueErrorAt("shop 2 1 ^1;" + crossing, SYNTAX);
    }

    private static void jobs() {
        sentence("There are 1 to 6 jobs.");
        due("jobCount, the least", shopOf("shop 1 0;" + JOB).jobCount(), 1);
        BlockingShop most = shopOf("shop 1 0;" + JOB.repeat(6));
        due("jobCount, the greatest", most.jobCount(), 6);
        due("completion of the last one", most.completion(5), 6);
        dueErrorAt("shop 1 0;" + JOB.repeat(6) + "^" + JOB, MANY);
        sentence("There must be at least one job.");
        dueErrorAt("shop 1 0;^", SYNTAX);
        dueErrorAt("shop 1 0;   ^", SYNTAX);
        dueErrorAt("shop 1 0;machine 0 0 0;cost 1;^", SYNTAX);
        dueFine("shop 1 0;machine 0 0 0;cost 1;" + JOB, 1);
    }

    private static void jobNumbers() {
        sentence("A job has a release time (0 to 999)");
        due("the least release time", costOf("0 1 1", "release"), 0);
        due("the greatest release time", costOf("999 1 1", "release"), 999);
        dueErrorAt("shop 1 0;job ^1000 1 1 op 0 1;", RANGE);
        sentence("a due time (0 to 9999)");
        due("the least due time", costOf("1 0 1", "due"), 0);
        due("the greatest due time", costOf("1 9999 1", "due"), 9999);
        dueErrorAt("shop 1 0;job 1 ^10000 1 op 0 1;", RANGE);
        sentence("a weight (0 to 99)");
        due("the least weight", costOf("1 1 0", "weight"), 0);
        due("the greatest weight", costOf("1 1 99", "weight"), 99);
        dueErrorAt("shop 1 0;job 1 1 ^100 op 0 1;", RANGE);
        sentence("Those of job are the release time, the due time and the weight");
        dueErrorAt("shop 1 0;job 1 1 ^op 0 1;", SYNTAX);
        dueErrorAt("shop 1 0;job 1 1 1 ^1 op 0 1;", SYNTAX);
    }

    private static void operations() {
        sentence("and 1 to 6 operations, which are done in their order, on different machines.");
        dueErrorAt("shop 6 0;job 0 0 0^;", SYNTAX);
        due("operationCount, the least", shopOf("shop 6 0;job 0 0 0 op 5 1;").operationCount(0), 1);
        BlockingShop most = shopOf("shop 6 0;job 0 0 0 " + SIX_OPERATIONS + ";");
        due("operationCount, the greatest", most.operationCount(0), 6);
        due("start of the last one", most.start(0, 5), 5);
        dueErrorAt("shop 6 0;job 0 0 0 " + SIX_OPERATIONS + " ^op 0 1;", MANY);
        dueErrorAt("shop 6 0;" + JOB + "job 0 0 0 " + SIX_OPERATIONS + " ^op 0 1;", MANY);
        dueErrorAt("shop 6 0;job 0 0 0 op 4 1 op ^4 1;", RANGE);
        dueErrorAt("shop 6 0;job 0 0 0 op 0 1 op 1 1 op 2 1 op 3 1 op 4 1 op ^0 1;", RANGE);
        dueFine("shop 6 0;job 0 0 0 op 4 1;job 0 0 0 op 4 1;", 2);
        sentence("An operation has a machine and a duration (1 to 99).");
        dueErrorAt("shop 1 0;job 0 0 0 op ^1 1;", RANGE);
        dueErrorAt("shop 6 0;job 0 0 0 op ^6 1;", RANGE);
        due("the machine 5 of 6", shopOf("shop 6 0;job 0 0 0 op 5 1;").operation(0, 0, 0), 5);
        dueErrorAt("shop 1 0;job 0 0 0 op 0 ^0;", RANGE);
        due("the least duration", shopOf("shop 1 0;job 0 0 0 op 0 1;").operation(0, 0, 1), 1);
        due("the greatest duration", shopOf("shop 1 0;job 0 0 0 op 0 99;").operation(0, 0, 1), 99);
        dueErrorAt("shop 1 0;job 0 0 0 op 0 ^100;", RANGE);
        sentence("those of op are the machine and the duration.");
        dueErrorAt("shop 1 0;job 0 0 0 op 0^;", SYNTAX);
        dueErrorAt("shop 1 0;job 0 0 0 op^;", SYNTAX);
        dueErrorAt("shop 1 0;job 0 0 0 op 0 1 ^1;", SYNTAX);
    }

    // The setup text

    private static String spaces(int length) {
        return " ".repeat(length);
    }

    private static void textLength() {
        String text = "shop 1 0;" + JOB;
        sentence("The setup text is read from an input buffer of at most 900 bytes.");
        dueFine(text + spaces(900 - text.length()), 1);
        dueFine(spaces(900 - text.length()) + text, 1);
        dueError(spaces(900), SYNTAX, 900);
        dueError(text + spaces(899 - text.length()) + "x", SYNTAX, 899);
        String sum = "1" + "+1".repeat((900 - text.length() - 7) / 2);
        due("the cost of a sum up to the end of the buffer", shopOf(text + "cost " + sum + ";").jobCost(0), sum.length() / 2 + 1);
        String digits = "0".repeat(900 - text.length() - 7);
        due("the cost of a number up to the end of the buffer", shopOf(text + "cost " + digits + "8;").jobCost(0), 8);
        String word = "x".repeat(900 - text.length() - 5);
        dueErrorAt(text + "cost ^" + word, SYNTAX);
    }

    private static void emptyTexts() {
        sentence("setup = \"shop\" number number \";\" { statement \";\" }");
        dueErrorAt("^", SYNTAX);
        dueErrorAt("    ^", SYNTAX);
        dueErrorAt("^;", SYNTAX);
        dueErrorAt("^" + JOB, SYNTAX);
        dueErrorAt("shop^", SYNTAX);
        dueErrorAt("shop^;", SYNTAX);
        dueErrorAt("shop 1 0 ^" + JOB, SYNTAX);
        dueErrorAt("shop 1 0;^;" + JOB, SYNTAX);
        dueErrorAt("shop 1 0;" + JOB + "^;", SYNTAX);
        dueErrorAt("shop 1 0;" + JOB + "^shop 1 0;", SYNTAX);
        dueErrorAt("shop 1 0;job 0 0 0 op 0 1 ^machine 0 0 0;", SYNTAX);
    }

    private static void expressions() {
        sentence("sum = term { ( \"+\" | \"-\" ) term }");
        dueErrorAt("shop 1 0;cost^;" + JOB, SYNTAX);
        dueErrorAt("shop 1 0;cost ^+1;" + JOB, SYNTAX);
        dueErrorAt("shop 1 0;cost ^-1;" + JOB, SYNTAX);
        dueErrorAt("shop 1 0;cost 1-^;" + JOB, SYNTAX);
        dueErrorAt("shop 1 0;cost 1+^+1;" + JOB, SYNTAX);
        sentence("term = factor { ( \"*\" | \"/\" ) factor }");
        dueErrorAt("shop 1 0;cost ^*1;" + JOB, SYNTAX);
        dueErrorAt("shop 1 0;cost 1/^;" + JOB, SYNTAX);
        dueErrorAt("shop 1 0;cost 1*^-1;" + JOB, SYNTAX);
        sentence("factor = number | \"completion\" | \"due\" | \"weight\" | \"release\" | \"(\" sum \")\"");
        dueErrorAt("shop 1 0;cost (^);" + JOB, SYNTAX);
        dueErrorAt("shop 1 0;cost (1^;" + JOB, SYNTAX);
        dueErrorAt("shop 1 0;cost 1^);" + JOB, SYNTAX);
        dueErrorAt("shop 1 0;cost 1 ^2;" + JOB, SYNTAX);
        dueErrorAt("shop 1 0;cost due ^due;" + JOB, SYNTAX);
        dueErrorAt("shop 1 0;cost (1)^(1);" + JOB, SYNTAX);
        dueErrorAt("shop 1 0;cost ^makespan;" + JOB, SYNTAX);
        dueErrorAt("shop 1 0;cost ^op;" + JOB, SYNTAX);
        due("the cost in four parentheses of one factor", costOf("((((weight))))"), 2);
    }

    private static void runs() {
        sentence("A number is a run of decimal digits; a word is a run of the letters a to z. Each run is as long as possible.");
        dueFine("shop1 0;job0 0 0op0 1;", 1);
        dueFine("shop 6 0;job 0 0 0 op 5 1op 4 1op 3 1;cost 1;", 1);
        dueErrorAt("^shopshop 1 0;" + JOB, SYNTAX);
        dueErrorAt("shop ^10;" + JOB, RANGE);
        dueErrorAt("shop 1 ^010;" + JOB, RANGE);
        dueErrorAt("shop 1 0;^jobjob 0 0 0 op 0 1;", SYNTAX);
        dueErrorAt("shop 1 0;^jo b 0 0 0 op 0 1;", SYNTAX);
        dueErrorAt("shop 1 0;job 0 0 0 ^opop 0 1;", SYNTAX);
        dueErrorAt("shop 1 0;cost ^completio;" + JOB, SYNTAX);
        dueErrorAt("shop 1 0;cost ^completions;" + JOB, SYNTAX);
        dueErrorAt("shop 1 0;cost ^dueweight;" + JOB, SYNTAX);
        // The bytes next to the digits and to the letters are no part of a run.
        for (char sign : new char[] {'/', ':', '`', '{', 'A', 'Z'}) {
            dueErrorAt("shop 1^" + sign + " 0;" + JOB, SYNTAX);
            dueErrorAt("shop^" + sign + " 1 0;" + JOB, SYNTAX);
            dueErrorAt("^" + sign + "shop 1 0;" + JOB, SYNTAX);
        }
        due("a word with the last letters", costOf("weight"), 2);
        due("a number with the first and the last digit", costOf("9090"), 9090);
    }

    private static void spacesBetween() {
        sentence("Spaces (byte 32) may precede any token and may follow the last one. No other byte separates tokens.");
        dueFine("  shop  1  0  ;  job  0  0  0  op  0  1  ;  cost  (  1  +  due  )  *  2  ;  ", 1);
        dueFine("shop1 0;job0 0 0op0 1;cost(1+due)*2;machine0 0 0;", 1);
        dueErrorAt("^s hop 1 0;" + JOB, SYNTAX);
        for (char sign : new char[] {0, 9, 10, 11, 12, 13, 31, 33, 127, 128, 0xa0, 0xff}) {
            dueErrorAt("^" + sign + "shop 1 0;" + JOB, SYNTAX);
            dueErrorAt("shop^" + sign + "1 0;" + JOB, SYNTAX);
            dueErrorAt("shop 1 0;" + JOB + "^" + sign, SYNTAX);
        }
    }

    private static void numberFactors() {
        sentence("A number as a factor is 0 to 9999.");
        due("the least number", costOf("0"), 0);
        due("the greatest number", costOf("9999"), 9999);
        due("the greatest number with zeros before it", costOf("0009999"), 9999);
        dueErrorAt("shop 1 0;cost ^10000;" + JOB, RANGE);
        dueErrorAt("shop 1 0;cost 1+((^10000;" + JOB, RANGE);
    }

    private static void parentheses() {
        sentence("Parentheses nest at most 4 deep.");
        due("4 deep", costOf("1+(1+(1+(1+(1))))"), 5);
        due("4 deep, again and again", costOf("((((1))))+((((2))))*((((3))))-(((4)))"), 3);
        due("each level with an operand that waits", costOf("1-2*(1-2*(1-2*(1-2*(1-2*3))))"), 1 - 2 * (1 - 2 * (1 - 2 * 11)));
        sentence("TOO_DEEP: an opening parenthesis inside 4 others, at that parenthesis.");
        dueErrorAt("shop 1 0;cost ((((^(1)))));" + JOB, DEEP);
        dueErrorAt("shop 1 0;cost 1+(1*(1+( (1- ^( 1", DEEP);
        dueErrorAt("shop 1 0;cost ((((1))))+((((^((((", DEEP);
        dueErrorAt("shop 1 0;cost ((((1)*(2)+^x", SYNTAX);
        dueErrorAt("shop 1 0;cost ((((1)+(2)*^", SYNTAX);
    }

    private static void oneCost() {
        sentence("The statement cost may occur once.");
        due("the cost of a first statement", shopOf("shop 1 0;cost 4;" + JOB).jobCost(0), 4);
        due("the cost of a last statement", shopOf("shop 1 0;" + JOB + "cost 4;").jobCost(0), 4);
        sentence("a second cost, at its first letter.");
        dueErrorAt("shop 1 0;cost 4; ^cost 4;" + JOB, SYNTAX);
        dueErrorAt("shop 1 0;cost 4;" + JOB + "machine 0 0 0;^cost 4;", SYNTAX);
        dueErrorAt("shop 1 0;cost 4;" + JOB + "^cost 10000;", SYNTAX);
        dueErrorAt("shop 1 0;cost 4;^cost", SYNTAX);
        BlockingShop again = shopOf("shop 1 0;cost 4;" + JOB);
        due("load of a cost in the next text", load(again, "shop 1 0;cost 5;" + JOB), 1);
        due("its cost", again.jobCost(0), 5);
        due("load of a text without a cost", load(again, "shop 1 0;" + JOB), 1);
        due("its cost, the completion", again.jobCost(0), 1);
        due("a second cost after an error in the first one", load(again, "shop 1 0;cost x;"), SYNTAX);
        due("load of a cost after that error", load(again, "shop 1 0;cost 6;" + JOB), 1);
        due("its cost", again.jobCost(0), 6);
    }

    // The kinds of errors

    private static void firstError() {
        sentence("The first error in the text is the one with the smallest offset.");
        dueErrorAt("shop ^9 9;job 1000 x", RANGE);
        dueErrorAt("shop 1 0;job ^1000 10000 100 ops", RANGE);
        dueErrorAt("shop 1 0;job 0 0 0^; op 9 0;", SYNTAX);
        dueErrorAt("shop 1 0;cost ((((^((10000)x;", DEEP);
        dueErrorAt("shop 1 0;cost ((^10000+((((((;", RANGE);
        dueErrorAt("shop 1 0;" + JOB.repeat(6) + "^job 1000 x", MANY);
        dueErrorAt("shop 1 0;^x" + JOB.repeat(7), SYNTAX);
        dueErrorAt("shop 6 0;job 0 0 0 " + SIX_OPERATIONS + "^op 9 x", MANY);
        dueErrorAt("shop 6 0;job 0 0 0 op 0 1 op 1 1 op ^1 100 op 9 x", RANGE);
        dueErrorAt("shop 1 0;cost 1;^cost 10000;", SYNTAX);
    }

    private static void errorsAtOneOffset() {
        sentence("If several kinds of error have the same offset, the first one in this list counts");
        dueErrorAt("shop 1 0 ^99999;" + JOB, SYNTAX);
        dueErrorAt("shop ^x 0;" + JOB, SYNTAX);
        dueErrorAt("shop 1 0;job 0 0 0 ^1000 op 0 1;", SYNTAX);
        dueErrorAt("shop 1 0;" + JOB.repeat(5) + "job 0 0 0 op 0 1 ^job 0 0 0 op 0 1;", SYNTAX);
        dueErrorAt("shop 6 0;job 0 0 0 " + SIX_OPERATIONS + ";^op 0 1;", SYNTAX);
        dueErrorAt("shop 6 0;job 0 0 0 op 0 1 op 1 1 op 2 1 op 3 1 op 4 1 op 5 ^op 0 1;", SYNTAX);
        dueErrorAt("shop 1 0;cost ((((1^(1)))));" + JOB, SYNTAX);
        dueErrorAt("shop 1 0;cost ((((1)^(1))));" + JOB, SYNTAX);
    }

    private static void syntaxOffsets() {
        sentence("SYNTAX_ERROR: a token or byte that the grammar does not allow here, at its first byte");
        due("SYNTAX_ERROR", SYNTAX, -2);
        dueErrorAt("shop 1 0;   ^wrong 0;" + JOB, SYNTAX);
        dueErrorAt("shop 1 0;job 0 0 0 op 0 1   ^123;", SYNTAX);
        dueErrorAt("shop 1 0;   ^\u00e9" + JOB, SYNTAX);
        dueErrorAt("^!", SYNTAX);
        sentence("the end of the text, at its length, if the text ends too early or there is no job");
        String text = "shop 1 0;job 0 0 0 op 0 1";
        int[] tokenEnds = {0, 4, 6, 8, 9, 12, 14, 16, 18, 21, 23, 25};
        for (int length : tokenEnds) {
            dueError(text.substring(0, length), SYNTAX, length);
            dueError(text.substring(0, length) + "  ", SYNTAX, length + 2);
        }
        dueErrorAt("shop 1 0;" + JOB + "cost ((1)  ^", SYNTAX);
        dueErrorAt("shop 1 0;" + JOB + "cost 1^", SYNTAX);
        dueErrorAt("shop 1 0;" + JOB + "machine 0 0 0^", SYNTAX);
        BlockingShop part = new BlockingShop();
        put(part, text + ";");
        due("load of all but the last semicolon", part.load(text.length()), SYNTAX);
        due("its errorOffset", part.errorOffset(), text.length());
    }

    private static void rangeOffsets() {
        sentence("OUT_OF_RANGE: a number outside its range, at its first digit");
        due("OUT_OF_RANGE", RANGE, -3);
        dueErrorAt("shop   ^0000000 0;" + JOB, RANGE);
        dueErrorAt("shop   ^0007 0;" + JOB, RANGE);
        dueFine("shop 00000000000000000000000000006 0;" + JOB, 1);
        // Numbers that wrap around to one in its range in an int, in a long, and in a few more digits.
        for (String number : new String[] {"4294967297", "18446744073709551617", "340282366920938463463374607431768211457",
            "2147483648", "9223372036854775808", "100001", "1000001", "65537", "257"}) {
            dueErrorAt("shop ^" + number + " 0;" + JOB, RANGE);
            dueErrorAt("shop 1 0;job 0 0 0 op 0 ^" + number + ";", RANGE);
        }
        dueErrorAt("shop 1 0;job ^" + "9".repeat(800) + " 0 0 op 0 1;", RANGE);
        sentence("this includes the machine of an operation that the job needs already.");
        dueErrorAt("shop 6 0;job 0 0 0 op 3 1 op 2 1 op   ^3 1;", RANGE);
        dueErrorAt("shop 6 0;job 0 0 0 op 3 1 op 2 1 op   ^003 x", RANGE);
        dueErrorAt("shop 6 0;job 0 0 0 op 0 1 op ^0 0;", RANGE);
        dueErrorAt("shop 6 0;" + JOB + "job 0 0 0 op 1 1 op 0 1 op ^1 0;", RANGE);
    }

    private static void manyOffsets() {
        sentence("TOO_MANY: a job beyond the maximum number, at the first letter of its statement");
        due("TOO_MANY", MANY, -4);
        dueErrorAt("shop 1 0;" + JOB.repeat(6) + "   ^job", MANY);
        dueErrorAt("shop 1 0;" + JOB.repeat(6) + "^job;", MANY);
        dueErrorAt("shop 1 0;" + JOB.repeat(3) + "cost 1;" + JOB.repeat(3) + "machine 0 0 0;^job x", MANY);
        dueErrorAt("shop 1 0;" + JOB.repeat(6) + "^jobs", SYNTAX);
        dueErrorAt("shop 1 0;" + JOB.repeat(6) + "^jo", SYNTAX);
        sentence("a seventh operation of a job, at the first letter of \"op\".");
        String six = "shop 6 0;job 0 0 0 " + SIX_OPERATIONS;
        dueErrorAt(six + "   ^op", MANY);
        dueErrorAt(six + "^op0 1;", MANY);
        dueErrorAt(six + "^op;", MANY);
        dueErrorAt(six + " ^ops", SYNTAX);
        dueErrorAt(six + " ^o", SYNTAX);
        dueFine(six + ";job 0 0 0 " + SIX_OPERATIONS + ";", 2);
        due("TOO_DEEP", DEEP, -5);
    }

    public static void main(String[] args) {
        machines();
        machineKinds();
        setupTimes();
        lastStatementOfMachine();
        swapsAllowed();
        jobs();
        jobNumbers();
        operations();
        textLength();
        emptyTexts();
        expressions();
        runs();
        spacesBetween();
        numberFactors();
        parentheses();
        oneCost();
        firstError();
        errorsAtOneOffset();
        syntaxOffsets();
        rangeOffsets();
        manyOffsets();
        finish("all edges of the setup text hold");
    }
}
