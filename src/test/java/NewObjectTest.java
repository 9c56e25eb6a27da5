/** Promise 1: a new object has no constants, assertions, scopes or terms; nothing is typed or kept. */
public final class NewObjectTest {
    public static void main(String[] args) {
        Checks checks = new Checks();
        TermSolver solver = new TermSolver();
        checks.due("count(0)", solver.count(0), 0);
        checks.due("count(1)", solver.count(1), 0);
        checks.due("count(2)", solver.count(2), 0);
        checks.due("terms()", solver.terms(), 0);
        checks.due("value(0)", solver.value(0), -1);
        checks.due("core(0)", solver.core(0), false);
        checks.due("holds(0, 0)", solver.holds(0, 0), -1);
        checks.due("command() with nothing typed", solver.command(), -1);
        checks.dueCommand(solver, "(pop)", -1000);
        checks.due("check() of nothing", solver.check(), 1);
        checks.due("value(0) of no constant", solver.value(0), -1);
        checks.due("core(0) of no assertion", solver.core(0), false);
        twoObjectsShareNothing(checks);
        checks.end("NewObjectTest");
    }

    private static void twoObjectsShareNothing(Checks checks) {
        TermSolver one = checks.after("(declare-const a Bool)", "(push)", "(assert a)");
        Checks.type(one, "(pu");
        TermSolver other = new TermSolver();
        checks.due("count(0) of another object", other.count(0), 0);
        checks.due("count(1) of another object", other.count(1), 0);
        checks.due("count(2) of another object", other.count(2), 0);
        checks.due("terms() of another object", other.terms(), 0);
        checks.due("command() of another object", other.command(), -1);
    }
}
