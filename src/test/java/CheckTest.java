/** Promise 4: check tells whether all that is asserted can hold. */
public final class CheckTest {
    public static void main(String[] args) {
        Checks checks = new Checks();
        plainCases(checks);
        followsTheScopes(checks);
        changesNothingElse(checks);
        hardCases(checks);
        checks.end("CheckTest");
    }

    private static void dueCheck(Checks checks, int want, String... commands) {
        TermSolver solver = checks.after(commands);
        checks.due("check() after " + String.join(" ", commands), solver.check(), want);
    }

    private static void plainCases(Checks checks) {
        String p = "(declare-const p Bool)";
        String a = "(declare-const a (_ BitVec 4))";
        dueCheck(checks, 1);
        dueCheck(checks, 1, p);
        dueCheck(checks, 1, "(assert true)");
        dueCheck(checks, 0, "(assert false)");
        dueCheck(checks, 1, p, "(assert p)");
        dueCheck(checks, 1, p, "(assert (not p))");
        dueCheck(checks, 0, p, "(assert p)", "(assert (not p))");
        dueCheck(checks, 0, p, "(assert (and p (not p)))");
        dueCheck(checks, 1, p, "(assert p)", "(assert p)");
        dueCheck(checks, 0, p, "(assert (not (= p p)))");
        dueCheck(checks, 1, a, "(assert (= (bvmul a a) #b0001))");
        dueCheck(checks, 0, a, "(assert (= (bvmul a a) #b0011))");
        dueCheck(checks, 0, a, "(assert (bvult a #b0000))");
        dueCheck(checks, 1, a, "(assert (bvslt a #b0000))");
        dueCheck(checks, 0, a, "(assert (bvslt a #b1000))");
        dueCheck(checks, 1, a, "(assert (= a (bvneg a)))", "(assert (distinct a #b0000))");
        dueCheck(checks, 0, a, "(assert (= a (bvnot a)))");
        dueCheck(checks, 0, a, "(assert (= (bvudiv #b0110 a) #b0111))");
        dueCheck(checks, 1, a, "(assert (= (bvudiv #b0110 a) #b1111))");
        dueCheck(checks, 0, a, "(assert (distinct (bvurem #b0110 a) #b0110))", "(assert (= a #b0000))");
    }

    private static void followsTheScopes(Checks checks) {
        TermSolver solver = checks.after("(declare-const a (_ BitVec 2))", "(assert (bvult a #b10))");
        checks.due("check()", solver.check(), 1);
        checks.dueCommand(solver, "(push)", 1);
        checks.due("check() in a scope", solver.check(), 1);
        checks.dueCommand(solver, "(assert (= a #b11))", 2);
        checks.due("check() of what cannot hold", solver.check(), 0);
        checks.dueCommand(solver, "(push)", 2);
        checks.dueCommand(solver, "(declare-const b Bool)", 2);
        checks.due("check() still", solver.check(), 0);
        checks.dueCommand(solver, "(pop)", 1);
        checks.due("check() still", solver.check(), 0);
        checks.dueCommand(solver, "(pop)", 0);
        checks.due("check() when it is taken away", solver.check(), 1);
    }

    private static void changesNothingElse(Checks checks) {
        TermSolver solver = checks.after("(declare-const a (_ BitVec 2))", "(push)", "(assert (bvult a #b10))");
        Checks.type(solver, "(po");
        int terms = solver.terms();
        checks.due("check()", solver.check(), 1);
        checks.due("check() again", solver.check(), 1);
        checks.due("terms()", solver.terms(), terms);
        checks.due("constants", solver.count(0), 1);
        checks.due("assertions", solver.count(1), 1);
        checks.due("scopes", solver.count(2), 1);
        Checks.type(solver, "p)");
        checks.due("command() that was typed round check()", solver.command(), 0);
    }

    /** Nothing but trying values, or learning, tells these. */
    private static void hardCases(Checks checks) {
        String a = "(declare-const a (_ BitVec 4))";
        String b = "(declare-const b (_ BitVec 4))";
        dueCheck(checks, 0, a, b, "(assert (= (bvmul a b) #b1111))", "(assert (= (bvand a b) #b0000))");
        dueCheck(checks, 0, a, b, "(assert (distinct (bvmul a b) (bvmul b a)))");
        dueCheck(checks, 0, a, b, "(assert (distinct (bvadd a b) (bvsub a (bvneg b))))");
        dueCheck(checks, 0, a, b, "(assert (bvult a (bvmul (bvudiv a b) b)))", "(assert (distinct b #b0000))");
        dueCheck(checks, 1, a, b, "(assert (= (bvudiv a b) (bvurem a b)))", "(assert (bvult #b1101 a))");
        dueCheck(checks, 0, a, b, "(assert (bvult a b))", "(assert (bvult b a))");
        dueCheck(checks, 0, a, b, "(assert (and (bvult a b) (bvslt b a)))", "(assert (= ((_ extract 3 3) (bvor a b)) #b0))");
        dueCheck(checks, 0, a, b, "(assert (= (bvxor a b) #b0000))", "(assert (distinct (bvshl a #b0001) (bvadd b b)))");
    }
}
