import java.io.IOException;
import java.nio.ByteBuffer;
import java.nio.charset.StandardCharsets;
import java.nio.file.Files;
import java.nio.file.Path;
import java.util.ArrayList;
import java.util.Arrays;
import java.util.List;

/** The example of README.md: its lines stand in this test, and they answer what stands behind them. */
public final class ReadmeTest extends Checks {
    private static final class Example {
        static int load(BlockingShop shop, String text) {
            byte[] bytes = text.getBytes(StandardCharsets.ISO_8859_1);
            ByteBuffer words = ByteBuffer.wrap(Arrays.copyOf(bytes, (bytes.length + 19) / 20 * 20));
            while (words.hasRemaining()) {
                shop.append(words.getInt(), words.getInt(), words.getInt(), words.getInt(), words.getInt());
            }
            return shop.load(bytes.length);
        }

        static Object[] answers() {
            BlockingShop shop = new BlockingShop();
            String text = "shop 2 1; job 0 9 1 op 0 2 op 1 3; job 0 8 2 op 1 2 op 0 4; cost weight * (completion - due);";
            int jobs = load(shop, text);
            int makespan = shop.makespan();
            int cost = shop.planCost();
            int start = shop.start(1, 0);
            int code = shop.orderAt(1, 0);
            int begin = shop.critical(0);
            boolean stuck = shop.deadlocks(0, 0);
            int after = shop.makespanAfter(1, 0);
            int best = shop.bestSwap();
            int then = shop.swap(1, 0);
            int previous = shop.setDuration(0, 1, 9);
            int left = shop.undo();
            int error = load(shop, "shop 2 2;");
            int offset = shop.errorOffset();
            return new Object[] {jobs, makespan, cost, start, code, begin, stuck, after, best, then, previous, left, error,
                offset};
        }
    }

    private static List<String> examples(Path readme) throws IOException {
        List<String> lines = new ArrayList<>();
        boolean isInside = false;
        for (String line : Files.readAllLines(readme)) {
            if (line.startsWith("```")) {
                isInside = line.equals("```java");
            } else if (isInside) {
                lines.add(line);
            }
        }
        return lines;
    }

    public static void main(String[] args) throws IOException {
        List<String> source = Files.readAllLines(Path.of("src/test/java/ReadmeTest.java"));
        source.replaceAll(String::strip);
        List<String> told = new ArrayList<>();
        int at = 0;
        for (String line : examples(Path.of("README.md"))) {
            int comment = line.indexOf("//");
            String code = (comment < 0 ? line : line.substring(0, comment)).strip();
            int found = source.subList(at, source.size()).indexOf(code);
            due("whether a line of README.md stands in the test: " + code, found >= 0, true);
            at += found + 1;
            if (comment >= 0) {
                told.add(line.substring(comment + 2).strip());
            }
        }
        List<String> answers = new ArrayList<>();
        for (Object answer : Example.answers()) {
            answers.add(answer.toString());
        }
        due("what README.md tells of the example", told, answers);
        finish("the example of README.md holds");
    }
}
