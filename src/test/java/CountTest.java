/** Promise 9: count tells how many constants, assertions and scopes there are. */
public final class CountTest {
    public static void main(String[] args) {
        Checks checks = new Checks();
        TermSolver solver = new TermSolver();
        dueCounts(checks, solver, "", 0, 0, 0);
        dueCounts(checks, solver, "(declare-const a Bool)", 1, 0, 0);
        dueCounts(checks, solver, "(assert a)", 1, 1, 0);
        dueCounts(checks, solver, "(push)", 1, 1, 1);
        dueCounts(checks, solver, "(declare-const b Bool)", 2, 1, 1);
        dueCounts(checks, solver, "(declare-const c Bool)", 3, 1, 1);
        dueCounts(checks, solver, "(push)", 3, 1, 2);
        dueCounts(checks, solver, "(assert a)", 3, 2, 2);
        dueCounts(checks, solver, "(assert (and b c))", 3, 3, 2);
        dueCounts(checks, solver, "(declare-const c Bool)", 3, 3, 2);
        dueCounts(checks, solver, "(assert d)", 3, 3, 2);
        dueCounts(checks, solver, "(push)", 3, 3, 3);
        dueCounts(checks, solver, "(pop)", 3, 3, 2);
        dueCounts(checks, solver, "(pop)", 3, 1, 1);
        dueCounts(checks, solver, "(pop)", 1, 1, 0);
        dueCounts(checks, solver, "(pop)", 1, 1, 0);
        checks.due("check()", solver.check(), 1);
        dueCounts(checks, solver, "", 1, 1, 0);
        eightConstants(checks);
        checks.end("CountTest");
    }

    private static void dueCounts(Checks checks, TermSolver solver, String text, int constants, int assertions, int scopes) {
        Checks.command(solver, text);
        checks.due("count(0) after " + text, solver.count(0), constants);
        checks.due("count(1) after " + text, solver.count(1), assertions);
        checks.due("count(2) after " + text, solver.count(2), scopes);
        for (int which : new int[] {3, 4, -1, Integer.MIN_VALUE, Integer.MAX_VALUE}) {
            checks.due("count(" + which + ")", solver.count(which), -1);
        }
    }

    private static void eightConstants(Checks checks) {
        TermSolver solver = new TermSolver();
        for (int k = 0; k < 8; k++) {
            checks.dueCommand(solver, "(declare-const " + (char) ('a' + k) + " Bool)", k + 1);
        }
        checks.dueCommand(solver, "(declare-const i Bool)", -1000);
        checks.due("count(0)", solver.count(0), 8);
    }
}
