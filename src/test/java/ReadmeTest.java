import java.io.IOException;
import java.nio.file.Files;
import java.nio.file.Path;
import java.util.List;

/** The example of README.md: each of its calls stands there as here, and answers what is said there. */
public final class ReadmeTest {
    private static final List<String> CALLS = List.of(
            "SlitherFence fence = new SlitherFence();", "fence.lay(2, 2);", "fence.number(0, 3);",
            "fence.number(3, 1);", "fence.mark(fence.edgeOf(0, 0), SlitherFence.LINE);", "fence.hint();",
            "fence.follows(6);", "fence.ruleOf(6);", "fence.markAll();", "fence.answers();",
            "if (fence.answers() > 0) {", "fence.answer(0);", "fence.isInside(0, 3);", "fence.proved(5);",
            "fence.beyondRules();", "}", "fence.isNeeded(3);");

    public static void main(String[] args) throws IOException {
        Check.same("the calls of the example", callsOfExample(), String.join("\n", CALLS));
        example();
        picture();
        Check.end();
    }

    private static String callsOfExample() throws IOException {
        String text = Files.readString(Path.of("README.md"));
        String[] lines = text.substring(text.indexOf("```java") + 7).split("```")[0].split("\n");
        StringBuilder calls = new StringBuilder();
        for (String line : lines) {
            String call = line.split("//")[0].strip();
            calls.append(call.isEmpty() || calls.length() == 0 ? "" : "\n").append(call);
        }
        return calls.toString();
    }

    private static void example() {
        SlitherFence fence = new SlitherFence();
        Check.same("1 cells", fence.cells(), 9);
        fence.lay(2, 2);
        Check.same("2 cells", fence.cells(), 4);
        fence.number(0, 3);
        fence.number(3, 1);
        fence.mark(fence.edgeOf(0, 0), SlitherFence.LINE);
        Check.same("19 hint", fence.hint(), 6);
        Check.same("14 follows 6", fence.follows(6), SlitherFence.LINE);
        Check.same("16 ruleOf 6", fence.ruleOf(6), 4);
        Check.same("8 markAll", fence.markAll(), 1);
        Check.same("20 answers", fence.answers(), 2);
        Check.same("21 answer 0", fence.answer(0), Check.set(0, 1, 2, 3, 6, 8));
        Check.same("22 isInside 0 3", fence.isInside(0, 3), false);
        Check.same("23 proved 5", fence.proved(5), SlitherFence.CROSS);
        Check.same("24 beyondRules", fence.beyondRules(), 2);
        Check.same("23 proved 11", fence.proved(11), SlitherFence.CROSS);
        Check.same("14 follows 5", fence.follows(5), SlitherFence.UNKNOWN);
        Check.same("14 follows 11", fence.follows(11), SlitherFence.UNKNOWN);
        Check.same("25 isNeeded 3", fence.isNeeded(3), true);
    }

    private static void picture() {
        SlitherFence fence = Check.board(2, 2);
        int[][] sides = {{0, 2, 6, 7}, {1, 3, 7, 8}, {2, 4, 9, 10}, {3, 5, 10, 11}};
        for (int cell = 0; cell < 4; cell++) {
            for (int side = 0; side < 4; side++) {
                Check.same("9 edgeOf " + cell + " " + side, fence.edgeOf(cell, side), sides[cell][side]);
            }
        }
    }
}
