import java.io.IOException;
import java.nio.file.Files;
import java.nio.file.Path;
import java.util.ArrayDeque;
import java.util.Deque;

/** The example in README.md is this run of calls, line by line, and its comments begin with what the calls answer. */
public final class AssumptionKeeperReadme {
    private static final Deque<String> LINES = new ArrayDeque<>();

    private static int wrong = 0;

    private static void complain(String what) {
        wrong++;
        System.out.println("README.md: " + what);
    }

    private static void readExample() throws IOException {
        boolean isInside = false;
        for (String line : Files.readAllLines(Path.of("README.md"))) {
            if (line.equals("```java")) {
                isInside = true;
            } else if (line.equals("```")) {
                isInside = false;
            } else if (isInside) {
                LINES.add(line);
            }
        }
    }

    private static void line(String code, String comment) {
        String next = LINES.isEmpty() ? "" : LINES.remove();
        int at = next.indexOf("//");
        String written = (at < 0 ? next : next.substring(0, at)).trim();
        String said = at < 0 ? "" : next.substring(at + 2).trim();
        if (!written.equals(code)) {
            complain("it has the line \"" + written + "\" where this test has \"" + code + "\"");
        } else if (!said.matches(comment + "([,:].*)?")) {
            complain("\"" + written + "\" is said to answer \"" + said + "\", it answers " + comment);
        }
    }

    private static void answers(String code, Object answer) {
        line(code, String.valueOf(answer));
    }

    private static void runExample() {
        AssumptionKeeper keeper = new AssumptionKeeper();
        line("AssumptionKeeper keeper = new AssumptionKeeper();", "");
        int rain = keeper.addAssumption(5);
        line("int rain = keeper.addAssumption(5);", "node " + rain);
        int sprinkler = keeper.addAssumption(3);
        line("int sprinkler = keeper.addAssumption(3);", "node " + sprinkler);
        int wet = keeper.addStatement();
        line("int wet = keeper.addStatement();", "node " + wet);
        line("keeper.addRule(1 << rain, wet);", "rule " + keeper.addRule(1 << rain, wet));
        line("keeper.addRule(1 << sprinkler, wet);", "rule " + keeper.addRule(1 << sprinkler, wet));
        line("keeper.addRule(1 << rain | 1 << sprinkler, -1);",
                "rule " + keeper.addRule(1 << rain | 1 << sprinkler, -1));
        answers("keeper.labelSize(wet);", keeper.labelSize(wet));
        answers("keeper.label(wet, 0);", keeper.label(wet, 0));
        answers("keeper.cheapest(wet);", keeper.cheapest(wet));
        answers("keeper.support(wet, 2);", keeper.support(wet, 2));
        answers("keeper.nogood(0);", keeper.nogood(0));
        answers("keeper.worldCount();", keeper.worldCount());
        answers("keeper.turn(2, false);", keeper.turn(2, false));
        answers("keeper.world(0);", keeper.world(0));
    }

    public static void main(String[] args) throws IOException {
        readExample();
        runExample();
        if (!LINES.isEmpty()) {
            complain("it has lines that this test does not have: " + LINES);
        }
        if (wrong > 0) {
            System.exit(1);
        }
    }
}
