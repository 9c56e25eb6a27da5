import java.util.ArrayList;
import java.util.List;

/** Promises 3, 4 and 7 at the document's limits: 60 terms of the dearest kinds give the right answers. */
public final class RoomTest {
    private static final String[] SHIFTS = {"bvshl", "bvlshr", "bvashr"};
    private static final String[] HEAVY = {"(assert (= (bvudiv a b) (bvurem a b)))", "(assert (bvult (bvudiv b a) (bvudiv a b)))",
        "(assert (= (bvurem b a) (bvmul a b)))"};

    public static void main(String[] args) {
        Checks checks = new Checks();
        for (int variant = 0; variant < HEAVY.length; variant++) {
            compare(checks, commands(variant));
        }
        checks.end("RoomTest");
    }

    /** Fills the terms with nests of shifts, which take the most gates, round two dividers. */
    private static List<String> commands(int variant) {
        List<String> commands = new ArrayList<>();
        commands.add("(declare-const a (_ BitVec 4))");
        commands.add("(declare-const b (_ BitVec 4))");
        commands.add(HEAVY[variant]);
        for (int k = 0; k < 9; k++) {
            String term = k % 2 == 0 ? "a" : "b";
            for (int depth = 0; depth < 6; depth++) {
                String other = (k >> depth & 1) == 0 ? "a" : "b";
                String op = SHIFTS[(k + depth + variant) % 3];
                term = depth % 2 == 0 ? "(" + op + " " + term + " " + other + ")" : "(" + op + " " + other + " " + term + ")";
            }
            commands.add("(assert (bvule a " + term + "))");
        }
        return commands;
    }

    private static void compare(Checks checks, List<String> commands) {
        Reference reference = new Reference();
        TermSolver solver = done(checks, commands, reference);
        checks.due("terms()", solver.terms(), reference.terms());
        checks.due("many terms", solver.terms() > 54, true);
        checks.due("check()", solver.check(), reference.check());
        for (int k = 0; k < 12; k++) {
            checks.due("value(" + k + ")", solver.value(k), reference.value(k));
            checks.due("core(" + k + ")", solver.core(k), reference.core(k));
        }
        for (int x = 0; x < 256; x++) {
            if (x % 16 == 0) {
                solver = done(checks, commands, new Reference()); // an object answers 512 calls
            }
            for (int k = 0; k < 12; k++) {
                checks.due("holds(" + k + ", " + x + ")", solver.holds(k, x), reference.holds(k, x));
            }
        }
    }

    private static TermSolver done(Checks checks, List<String> commands, Reference reference) {
        TermSolver solver = new TermSolver();
        for (String text : commands) {
            for (char c : text.toCharArray()) {
                reference.type(c, 1);
            }
            checks.dueCommand(solver, text, reference.command());
        }
        return solver;
    }
}
