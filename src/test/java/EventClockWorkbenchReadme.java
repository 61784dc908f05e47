import java.io.IOException;
import java.nio.file.Files;
import java.nio.file.Path;
import java.util.ArrayList;
import java.util.List;

/** The example of README.md, line by line, with the answers that it tells. */
public final class EventClockWorkbenchReadme extends WorkbenchTest {
    private static final List<String> LINES = new ArrayList<>();
    private static int next = 0;

    public static void main(String[] args) throws IOException {
        readExample();
        EventClockWorkbench x = fresh();
        shown("addTransition(0, 0, 0, 1)", () -> x.addTransition(0, 0, 0, 1));
        shown("appendCharacter('a')", () -> x.appendCharacter('a'));
        shown("appendCharacter('=')", () -> x.appendCharacter('='));
        shown("appendCharacter('2')", () -> x.appendCharacter('2'));
        shown("addTransition(0, 1, 0, 2)", () -> x.addTransition(0, 1, 0, 2));
        shown("setFinal(0, 2, true)", () -> x.setFinal(0, 2, true));
        shown("takeWitness(0)", () -> x.takeWitness(0));
        shown("event(1, 0)", () -> x.event(1, 0));
        shown("valuationBefore(1)", () -> x.valuationBefore(1));
        shown("appendEvent(1, 1)", () -> x.appendEvent(1, 1));
        shown("accepts(0)", () -> x.accepts(0));
        shown("stuckAt(0)", () -> x.stuckAt(0));
        shown("undo()", () -> x.undo());
        shown("isEmpty(0)", () -> x.isEmpty(0));
        due("the lines of the example", next, () -> LINES.size());
        finish("the example of README.md holds");
    }

    private static void readExample() throws IOException {
        for (String line : Files.readAllLines(Path.of("README.md"))) {
            if (line.startsWith("workbench.")) {
                LINES.add(line);
            }
        }
    }

    /** The next line of the example is this call, and the comment behind it begins with its answer. */
    private static void shown(String call, Call answer) {
        String line = next < LINES.size() ? LINES.get(next) : "";
        next++;
        due("the line of " + call, true, () -> line.startsWith("workbench." + call + ";"));
        due(call, line.replaceFirst(".*// (\\w+).*", "$1"), () -> String.valueOf(answerOf(answer)));
    }
}
