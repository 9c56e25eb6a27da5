/** Promise 8: terms tells how many terms are held, equal ones once and for ever. */
public final class TermsTest {
    public static void main(String[] args) {
        Checks checks = new Checks();
        eachOnce(checks);
        numbersAndWidths(checks);
        orderOfParts(checks);
        letsAreNoTerms(checks);
        constantsAreTermsOfTheirOwn(checks);
        termsStayForEver(checks);
        eachOperatorMakesATermOfItsOwn(checks);
        aConstantOfAnotherTimeIsAnotherTerm(checks);
        checks.end("TermsTest");
    }

    private static void dueTerms(Checks checks, TermSolver solver, String text, int want) {
        checks.due("done: " + text, Checks.command(solver, text) >= 0, true);
        checks.due("terms() after " + text, solver.terms(), want);
    }

    private static void eachOnce(Checks checks) {
        TermSolver solver = new TermSolver();
        dueTerms(checks, solver, "(assert true)", 1);
        dueTerms(checks, solver, "(assert true)", 1);
        dueTerms(checks, solver, "(assert false)", 2);
        dueTerms(checks, solver, "(assert (and true false))", 3);
        dueTerms(checks, solver, "(assert (and true false))", 3);
        dueTerms(checks, solver, "(assert (and (and true false) (and true false)))", 4);
        dueTerms(checks, solver, "(assert (not true))", 5);
        dueTerms(checks, solver, "(assert (not (not true)))", 6);
        dueTerms(checks, solver, "(assert (or true false))", 7);
        dueTerms(checks, solver, "(push)", 7);
        dueTerms(checks, solver, "(pop)", 7);
        checks.due("check()", solver.check(), 0);
        checks.due("terms() after check()", solver.terms(), 7);
    }

    private static void numbersAndWidths(Checks checks) {
        TermSolver solver = new TermSolver();
        dueTerms(checks, solver, "(assert (= #b0 #b0))", 2);
        dueTerms(checks, solver, "(assert (= #b00 #b00))", 4);
        dueTerms(checks, solver, "(assert (= #b000 #b000))", 6);
        dueTerms(checks, solver, "(assert (= #b1 #b1))", 8);
        dueTerms(checks, solver, "(assert (= #b01 #b01))", 10);
        dueTerms(checks, solver, "(assert (= ((_ extract 0 0) #b01) #b1))", 12);
        dueTerms(checks, solver, "(assert (= ((_ extract 1 1) #b01) #b1))", 14);
        dueTerms(checks, solver, "(assert (= ((_ extract 1 0) #b01) #b01))", 16);
        dueTerms(checks, solver, "(assert (= ((_ extract 1 0) #b01) #b01))", 16);
        dueTerms(checks, solver, "(assert (= ((_ zero_extend 0) #b01) #b01))", 18);
        dueTerms(checks, solver, "(assert (= ((_ sign_extend 0) #b01) #b01))", 20);
        dueTerms(checks, solver, "(assert (= ((_ zero_extend 1) #b01) #b000))", 22);
        eachPartOfAWord(checks);
    }

    /** Each pair of numbers makes another term, also when it comes again after all others. */
    private static void eachPartOfAWord(Checks checks) {
        TermSolver solver = checks.after("(declare-const a (_ BitVec 4))", "(push)");
        for (int round = 0; round < 2; round++) {
            int want = 1;
            for (int i = 0; i < 4; i++) {
                for (int j = 0; j <= i; j++) {
                    want += 2;
                    String part = "((_ extract " + i + " " + j + ") a)";
                    dueTerms(checks, solver, "(assert (= " + part + " " + part + "))", round == 0 ? want : 21);
                }
            }
            checks.dueCommand(solver, "(pop)", 0);
            checks.dueCommand(solver, "(push)", 1);
        }
    }

    private static void orderOfParts(Checks checks) {
        TermSolver solver = checks.after("(declare-const p Bool)", "(declare-const q Bool)");
        dueTerms(checks, solver, "(assert (and p q))", 3);
        dueTerms(checks, solver, "(assert (and q p))", 4);
        dueTerms(checks, solver, "(assert (or p q))", 5);
        dueTerms(checks, solver, "(assert (= p q))", 6);
        dueTerms(checks, solver, "(assert (distinct p q))", 7);
        dueTerms(checks, solver, "(assert (xor p q))", 8);
        dueTerms(checks, solver, "(assert (=> p q))", 9);
        dueTerms(checks, solver, "(assert (ite p q q))", 10);
        dueTerms(checks, solver, "(assert (ite p q p))", 11);
        dueTerms(checks, solver, "(assert (ite p p q))", 12);
        dueTerms(checks, solver, "(assert (ite p q q))", 12);
        dueTerms(checks, solver, "(assert (and p p))", 13);
    }

    private static void letsAreNoTerms(Checks checks) {
        TermSolver solver = checks.after("(declare-const a (_ BitVec 2))");
        dueTerms(checks, solver, "(assert (let ((x (bvnot a))) (= x x)))", 3);
        dueTerms(checks, solver, "(assert (= (bvnot a) (bvnot a)))", 3);
        dueTerms(checks, solver, "(assert (let ((x (bvneg a))) (= a a)))", 5);
        dueTerms(checks, solver, "(assert (let ((a (bvneg a))) (= a a)))", 6);
        dueTerms(checks, solver, "(assert (let ((a a)) (= a a)))", 6);
        dueTerms(checks, solver, "(assert (let ((x a)) (let ((y x)) (= y x))))", 6);
        dueTerms(checks, solver, "(assert (let ((x (let ((x (bvnot a))) (bvnot x)))) (= x a)))", 8);
        checks.due("holds of the last one", solver.holds(6, 2), 1);
        dueTerms(checks, solver, "(assert (let ((x #b00)) true))", 10);
    }

    private static void constantsAreTermsOfTheirOwn(Checks checks) {
        TermSolver solver = new TermSolver();
        dueTerms(checks, solver, "(push)", 0);
        dueTerms(checks, solver, "(declare-const a (_ BitVec 2))", 1);
        dueTerms(checks, solver, "(declare-const b (_ BitVec 2))", 2);
        dueTerms(checks, solver, "(assert (= a a))", 3);
        dueTerms(checks, solver, "(pop)", 3);
        dueTerms(checks, solver, "(declare-const a (_ BitVec 2))", 4);
        dueTerms(checks, solver, "(assert (= a a))", 5);
        dueTerms(checks, solver, "(assert (= a a))", 5);
    }

    private static void termsStayForEver(Checks checks) {
        TermSolver solver = checks.after("(declare-const a (_ BitVec 2))", "(push)", "(assert (= (bvnot a) #b01))");
        checks.due("terms()", solver.terms(), 4);
        dueTerms(checks, solver, "(pop)", 4);
        dueTerms(checks, solver, "(assert (= (bvnot a) #b01))", 4);
        checks.dueCommand(solver, "(assert (= (bvneg a) #b11)", -27);
        checks.due("terms() after a fault", solver.terms(), 4);
        checks.dueCommand(solver, "(pop)", -1000);
        checks.due("terms() after a refusal", solver.terms(), 4);
    }

    private static void eachOperatorMakesATermOfItsOwn(Checks checks) {
        String[] truths = {"(not p)", "(and p p)", "(or p p)", "(xor p p)", "(=> p p)", "(= p p)", "(distinct p p)",
            "(ite p p p)"};
        TermSolver solver = checks.after("(declare-const p Bool)");
        for (int k = 0; k < truths.length; k++) {
            dueTerms(checks, solver, "(assert " + truths[k] + ")", 2 + k);
        }
        String[] orders = {"=", "distinct", "bvult", "bvule", "bvslt", "bvsle"};
        solver = checks.after("(declare-const a (_ BitVec 2))");
        for (int k = 0; k < orders.length; k++) {
            dueTerms(checks, solver, "(assert (" + orders[k] + " a a))", 2 + k);
        }
        String[] words = {"(bvnot a)", "(bvneg a)", "(bvand a a)", "(bvor a a)", "(bvxor a a)", "(bvadd a a)", "(bvsub a a)",
            "(bvshl a a)", "(bvlshr a a)", "(bvashr a a)", "((_ extract 1 0) a)"};
        solver = checks.after("(declare-const a (_ BitVec 2))");
        for (int k = 0; k < words.length; k++) {
            dueTerms(checks, solver, "(assert (= a " + words[k] + "))", 3 + 2 * k);
        }
        String[] pairs = {"(= (bvmul a a) (bvudiv a a))", "(= (bvudiv a a) (bvurem a a))", "(= (bvurem a a) (bvmul a a))",
            "(= ((_ zero_extend 0) a) ((_ sign_extend 0) a))", "(= ((_ extract 1 1) a) ((_ extract 0 0) a))",
            "(= (concat a a) ((_ zero_extend 2) a))", "(= ((_ sign_extend 2) a) ((_ zero_extend 2) a))"};
        for (String pair : pairs) {
            dueTerms(checks, checks.after("(declare-const a (_ BitVec 2))"), "(assert " + pair + ")", 4);
        }
        solver = checks.after("(declare-const m (Array (_ BitVec 1) (_ BitVec 1)))");
        dueTerms(checks, solver, "(assert (= (select m #b0) (select m #b0)))", 4);
        dueTerms(checks, solver, "(assert (= (select m #b1) (select m #b0)))", 7);
        dueTerms(checks, solver, "(assert (= m (store m #b1 #b0)))", 9);
        dueTerms(checks, solver, "(assert (= m (store m #b0 #b1)))", 11);
        dueTerms(checks, solver, "(assert (= m (store m #b1 #b0)))", 11);
        allWords(checks);
    }

    /** Each of the 30 words is a term of its own. */
    private static void allWords(Checks checks) {
        TermSolver solver = checks.after("(push)");
        for (int k = 2; k < 32; k++) {
            String word = "#b" + Integer.toBinaryString(k).substring(1);
            dueTerms(checks, solver, "(assert (= " + word + " " + word + "))", 2 * (k - 1));
            if (solver.count(1) == 12) {
                checks.dueCommand(solver, "(pop)", 0);
                checks.dueCommand(solver, "(push)", 1);
            }
        }
        checks.due("terms() of 30 words and as many equations", solver.terms(), 60);
    }

    private static void aConstantOfAnotherTimeIsAnotherTerm(Checks checks) {
        TermSolver solver = checks.after("(declare-const b (_ BitVec 2))");
        for (int k = 0; k < 6; k++) {
            checks.dueCommand(solver, "(push)", 1);
            dueTerms(checks, solver, "(declare-const a (_ BitVec 2))", 2 + 2 * k);
            dueTerms(checks, solver, "(assert (= a b))", 3 + 2 * k);
            dueTerms(checks, solver, "(assert (= a b))", 3 + 2 * k);
            dueTerms(checks, solver, "(pop)", 3 + 2 * k);
        }
        dueTerms(checks, solver, "(declare-const a Bool)", 14);
        dueTerms(checks, solver, "(assert (= a a))", 15);
        checks.due("holds(0, 4)", solver.holds(0, 4), 1);
    }
}
