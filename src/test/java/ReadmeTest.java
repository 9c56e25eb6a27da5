import java.io.IOException;
import java.nio.file.Files;
import java.nio.file.Path;
import java.util.List;

/** The session that README.md shows: each line's call answers what stands behind its arrow. */
public final class ReadmeTest {
    private static final String ARROW = " -> ";
    private static final int LEAST_LINES = 15;

    public static void main(String[] args) throws IOException {
        Checks checks = new Checks();
        TermSolver solver = new TermSolver();
        int lines = 0;
        for (String line : Files.readAllLines(Path.of("README.md"))) {
            int arrow = line.indexOf(ARROW);
            if (arrow >= 0) {
                lines++;
                String call = line.substring(0, arrow).trim();
                String answer = answerOf(solver, call);
                String want = line.substring(arrow + ARROW.length()).trim();
                checks.due(call + " answered " + answer + ", README.md says " + want, answer.equals(want), true);
            }
        }
        checks.due("the session is there", lines >= LEAST_LINES, true);
        checks.end("ReadmeTest");
    }

    private static String answerOf(TermSolver solver, String call) {
        if (call.startsWith("(")) {
            return String.valueOf(Checks.command(solver, call));
        }
        int bracket = call.indexOf('(');
        List<String> numbers = List.of(call.substring(bracket + 1, call.length() - 1).split(", "));
        switch (call.substring(0, bracket)) {
            case "check":
                return String.valueOf(solver.check());
            case "value":
                return String.valueOf(solver.value(numberOf(numbers, 0)));
            case "core":
                return String.valueOf(solver.core(numberOf(numbers, 0)));
            case "holds":
                return String.valueOf(solver.holds(numberOf(numbers, 0), numberOf(numbers, 1)));
            case "terms":
                return String.valueOf(solver.terms());
            case "count":
                return String.valueOf(solver.count(numberOf(numbers, 0)));
            default:
                return "no such call";
        }
    }

    private static int numberOf(List<String> numbers, int k) {
        return Integer.parseInt(numbers.get(k));
    }
}
