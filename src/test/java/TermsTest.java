/** Promise 8: terms tells how many terms are held, equal ones once and for ever. */
public final class TermsTest {
    public static void main(String[] args) {
        Checks checks = new Checks();
        eachOnce(checks);
        numbersAndWidths(checks);
        orderOfParts(checks);
        letsAreNoTerms(checks);
        constantsAreTermsOfTheirOwn(checks);
        termsStayForEver(checks);
        checks.end("TermsTest");
    }

    private static void dueTerms(Checks checks, TermSolver solver, String text, int want) {
        checks.due("done: " + text, Checks.command(solver, text) >= 0, true);
        checks.due("terms() after " + text, solver.terms(), want);
    }

    private static void eachOnce(Checks checks) {
        TermSolver solver = new TermSolver();
        dueTerms(checks, solver, "(assert true)", 1);
        dueTerms(checks, solver, "(assert true)", 1);
        dueTerms(checks, solver, "(assert false)", 2);
        dueTerms(checks, solver, "(assert (and true false))", 3);
        dueTerms(checks, solver, "(assert (and true false))", 3);
        dueTerms(checks, solver, "(assert (and (and true false) (and true false)))", 4);
        dueTerms(checks, solver, "(assert (not true))", 5);
        dueTerms(checks, solver, "(assert (not (not true)))", 6);
        dueTerms(checks, solver, "(assert (or true false))", 7);
        dueTerms(checks, solver, "(push)", 7);
        dueTerms(checks, solver, "(pop)", 7);
        checks.due("check()", solver.check(), 0);
        checks.due("terms() after check()", solver.terms(), 7);
    }

    private static void numbersAndWidths(Checks checks) {
        TermSolver solver = new TermSolver();
        dueTerms(checks, solver, "(assert (= #b0 #b0))", 2);
        dueTerms(checks, solver, "(assert (= #b00 #b00))", 4);
        dueTerms(checks, solver, "(assert (= #b000 #b000))", 6);
        dueTerms(checks, solver, "(assert (= #b1 #b1))", 8);
        dueTerms(checks, solver, "(assert (= #b01 #b01))", 10);
        dueTerms(checks, solver, "(assert (= ((_ extract 0 0) #b01) #b1))", 12);
        dueTerms(checks, solver, "(assert (= ((_ extract 1 1) #b01) #b1))", 14);
        dueTerms(checks, solver, "(assert (= ((_ extract 1 0) #b01) #b01))", 16);
        dueTerms(checks, solver, "(assert (= ((_ extract 1 0) #b01) #b01))", 16);
        dueTerms(checks, solver, "(assert (= ((_ zero_extend 0) #b01) #b01))", 18);
        dueTerms(checks, solver, "(assert (= ((_ sign_extend 0) #b01) #b01))", 20);
        dueTerms(checks, solver, "(assert (= ((_ zero_extend 1) #b01) #b000))", 22);
    }

    private static void orderOfParts(Checks checks) {
        TermSolver solver = checks.after("(declare-const p Bool)", "(declare-const q Bool)");
        dueTerms(checks, solver, "(assert (and p q))", 3);
        dueTerms(checks, solver, "(assert (and q p))", 4);
        dueTerms(checks, solver, "(assert (or p q))", 5);
        dueTerms(checks, solver, "(assert (= p q))", 6);
        dueTerms(checks, solver, "(assert (distinct p q))", 7);
        dueTerms(checks, solver, "(assert (xor p q))", 8);
        dueTerms(checks, solver, "(assert (=> p q))", 9);
        dueTerms(checks, solver, "(assert (ite p q q))", 10);
        dueTerms(checks, solver, "(assert (ite p q p))", 11);
        dueTerms(checks, solver, "(assert (ite p p q))", 12);
        dueTerms(checks, solver, "(assert (ite p q q))", 12);
        dueTerms(checks, solver, "(assert (and p p))", 13);
    }

    private static void letsAreNoTerms(Checks checks) {
        TermSolver solver = checks.after("(declare-const a (_ BitVec 2))");
        dueTerms(checks, solver, "(assert (let ((x (bvnot a))) (= x x)))", 3);
        dueTerms(checks, solver, "(assert (= (bvnot a) (bvnot a)))", 3);
        dueTerms(checks, solver, "(assert (let ((x (bvneg a))) (= a a)))", 5);
        dueTerms(checks, solver, "(assert (let ((a (bvneg a))) (= a a)))", 6);
        dueTerms(checks, solver, "(assert (let ((a a)) (= a a)))", 6);
        dueTerms(checks, solver, "(assert (let ((x a)) (let ((y x)) (= y x))))", 6);
        dueTerms(checks, solver, "(assert (let ((x (let ((x (bvnot a))) (bvnot x)))) (= x a)))", 8);
        checks.due("holds of the last one", solver.holds(6, 2), 1);
        dueTerms(checks, solver, "(assert (let ((x #b00)) true))", 10);
    }

    private static void constantsAreTermsOfTheirOwn(Checks checks) {
        TermSolver solver = new TermSolver();
        dueTerms(checks, solver, "(push)", 0);
        dueTerms(checks, solver, "(declare-const a (_ BitVec 2))", 1);
        dueTerms(checks, solver, "(declare-const b (_ BitVec 2))", 2);
        dueTerms(checks, solver, "(assert (= a a))", 3);
        dueTerms(checks, solver, "(pop)", 3);
        dueTerms(checks, solver, "(declare-const a (_ BitVec 2))", 4);
        dueTerms(checks, solver, "(assert (= a a))", 5);
        dueTerms(checks, solver, "(assert (= a a))", 5);
    }

    private static void termsStayForEver(Checks checks) {
        TermSolver solver = checks.after("(declare-const a (_ BitVec 2))", "(push)", "(assert (= (bvnot a) #b01))");
        checks.due("terms()", solver.terms(), 4);
        dueTerms(checks, solver, "(pop)", 4);
        dueTerms(checks, solver, "(assert (= (bvnot a) #b01))", 4);
        checks.dueCommand(solver, "(assert (= (bvneg a) #b11)", -27);
        checks.due("terms() after a fault", solver.terms(), 4);
        checks.dueCommand(solver, "(pop)", -1000);
        checks.due("terms() after a refusal", solver.terms(), 4);
    }
}
