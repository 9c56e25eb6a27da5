/**
 * Promise 3 and the sentences of the limits: 60 terms, 2 of them dear, 4 scopes, 8 bits, 12 assertions.
 * Each is filled, and tried below, at and above its limit; of two refusals -1000 comes first.
 */
public final class LimitsTest {
    private static final String[] SORTS = {"Bool", "(_ BitVec 1)", "(_ BitVec 2)", "(_ BitVec 3)", "(_ BitVec 4)",
        "(Array (_ BitVec 1) (_ BitVec 1))", "(Array (_ BitVec 1) (_ BitVec 2))", "(Array (_ BitVec 1) (_ BitVec 3))",
        "(Array (_ BitVec 1) (_ BitVec 4))"};
    private static final int[] BITS = {1, 1, 2, 3, 4, 2, 4, 6, 8};
    private static final String[] DEAR = {"bvmul", "bvudiv", "bvurem"};
    private static final String[] CHEAP = {"bvand", "bvor", "bvxor", "bvadd", "bvsub", "bvshl", "bvlshr", "bvashr"};

    private final Checks checks = new Checks();

    public static void main(String[] args) {
        LimitsTest test = new LimitsTest();
        test.bitsTogether();
        test.bitsOfScopes();
        test.assertionsOfScopes();
        test.scopes();
        test.termsByAssertions();
        test.termsByConstants();
        test.termsThatAreThereAlready();
        test.dearTerms();
        test.dearTermsInOneText();
        test.cheapTermsAreNotDear();
        test.tooMuchComesBeforeTooManyTerms();
        test.checks.end("LimitsTest");
    }

    private void bitsTogether() {
        for (int used = 0; used <= 8; used++) {
            for (int k = 0; k < SORTS.length; k++) {
                TermSolver solver = new TermSolver();
                for (int bit = 0; bit < used; bit++) {
                    checks.dueCommand(solver, "(declare-const " + (char) ('a' + bit) + " Bool)", bit + 1);
                }
                int want = used + BITS[k] <= 8 ? used + 1 : -1000;
                checks.dueCommand(solver, "(declare-const x " + SORTS[k] + ")", want);
                checks.due("constants", solver.count(0), want > 0 ? want : used);
                checks.due("terms()", solver.terms(), want > 0 ? want : used);
            }
        }
    }

    /** Bits come back by pop, and constants of all scopes count together. */
    private void bitsOfScopes() {
        for (int k = 0; k < SORTS.length; k++) {
            TermSolver solver = checks.after("(declare-const a (_ BitVec 2))", "(push)", "(declare-const b (_ BitVec 3))", "(push)");
            int left = 3;
            checks.dueCommand(solver, "(declare-const x " + SORTS[k] + ")", BITS[k] <= left ? 3 : -1000);
            checks.dueCommand(solver, "(pop)", 1);
            checks.dueCommand(solver, "(declare-const x " + SORTS[k] + ")", BITS[k] <= left ? 3 : -1000);
            checks.dueCommand(solver, "(pop)", 0);
            checks.dueCommand(solver, "(declare-const x " + SORTS[k] + ")", BITS[k] <= left + 3 ? 2 : -1000);
        }
    }

    private void assertionsOfScopes() {
        for (int before = 0; before <= 12; before++) {
            TermSolver solver = new TermSolver();
            for (int k = 1; k <= before; k++) {
                checks.dueCommand(solver, "(assert true)", k);
            }
            checks.dueCommand(solver, "(push)", 1);
            for (int k = before + 1; k <= 12; k++) {
                checks.dueCommand(solver, "(assert true)", k);
            }
            checks.dueCommand(solver, "(assert true)", -1000);
            checks.due("assertions", solver.count(1), 12);
            checks.dueCommand(solver, "(pop)", 0);
            checks.dueCommand(solver, "(assert true)", before < 12 ? before + 1 : -1000);
        }
    }

    private void scopes() {
        TermSolver solver = new TermSolver();
        for (int round = 0; round < 3; round++) {
            checks.dueCommand(solver, "(pop)", -1000);
            checks.due("scopes", solver.count(2), 0);
            for (int k = 1; k <= 4; k++) {
                checks.dueCommand(solver, "(push)", k);
            }
            checks.dueCommand(solver, "(push)", -1000);
            checks.due("scopes", solver.count(2), 4);
            checks.dueCommand(solver, "(pop)", 3);
            checks.dueCommand(solver, "(push)", 4);
            for (int k = 3; k >= 0; k--) {
                checks.dueCommand(solver, "(pop)", k);
            }
        }
    }

    /** Holds so many terms, the first of them true, and has one scope with nothing in it. */
    private TermSolver withTerms(int terms) {
        TermSolver solver = checks.after("(push)", "(assert true)");
        for (int k = 2; k < 16 && solver.terms() < terms; k++) {
            String word = "#b" + Integer.toBinaryString(k).substring(1);
            int turned = Math.min(terms - solver.terms() - 2, 6);
            String nest = "(bvnot".repeat(Math.max(turned, 0)) + " " + word + ")".repeat(Math.max(turned, 0));
            Checks.command(solver, turned < 0 ? "(declare-const a Bool)" : "(assert (=" + nest + " " + word + "))");
        }
        checks.due("terms()", solver.terms(), terms);
        checks.dueCommand(solver, "(pop)", 0);
        checks.dueCommand(solver, "(push)", 1);
        return solver;
    }

    private void termsByAssertions() {
        for (int terms = 53; terms <= 60; terms++) {
            for (int more = 0; more <= 7; more++) {
                TermSolver solver = withTerms(terms);
                boolean fits = terms + more <= 60;
                String text = "(assert " + "(not".repeat(more) + " true" + ")".repeat(more + 1);
                checks.dueCommand(solver, text, fits ? 1 : -1001);
                checks.due("terms()", solver.terms(), fits ? terms + more : terms);
                checks.due("assertions", solver.count(1), fits ? 1 : 0);
                checks.dueCommand(solver, text, fits ? 2 : -1001);
            }
        }
    }

    private void termsByConstants() {
        for (int terms = 57; terms <= 60; terms++) {
            TermSolver solver = withTerms(terms);
            for (int k = 1; k <= 5; k++) {
                boolean fits = terms + k <= 60;
                checks.dueCommand(solver, "(declare-const " + (char) ('a' + k) + " Bool)", fits ? k : -1001);
                checks.due("terms()", solver.terms(), fits ? terms + k : 60);
            }
            checks.due("constants", solver.count(0), 60 - terms);
        }
    }

    /** A full object still does all that needs no new term. */
    private void termsThatAreThereAlready() {
        TermSolver solver = withTerms(58);
        checks.dueCommand(solver, "(assert (and true (not true)))", 1);
        checks.dueCommand(solver, "(assert (and true (not true)))", 2);
        checks.dueCommand(solver, "(assert (not true))", 3);
        checks.dueCommand(solver, "(assert (let ((x (not true))) (and true x)))", 4);
        checks.dueCommand(solver, "(assert (and (not true) true))", -1001);
        checks.dueCommand(solver, "(assert (not (not true)))", -1001);
        checks.dueCommand(solver, "(assert false)", -1001);
        checks.dueCommand(solver, "(assert (let ((x false)) true))", -1001);
        checks.dueCommand(solver, "(assert (let ((x true)) x))", 5);
        checks.dueCommand(solver, "(push)", 2);
        checks.dueCommand(solver, "(pop)", 1);
        checks.due("check()", solver.check(), 0);
        checks.due("terms()", solver.terms(), 60);
    }

    private void dearTerms() {
        for (String one : DEAR) {
            for (String two : DEAR) {
                for (String three : DEAR) {
                    TermSolver solver = checks.after("(declare-const a (_ BitVec 2))", "(push)");
                    checks.dueCommand(solver, "(assert (= a (" + one + " a a)))", 1);
                    checks.dueCommand(solver, "(assert (= a (" + two + " a #b01)))", 2);
                    checks.due("terms()", solver.terms(), 6);
                    checks.dueCommand(solver, "(assert (= a (" + three + " #b01 a)))", -1001);
                    checks.dueCommand(solver, "(assert (= (" + one + " a a) (" + two + " a #b01)))", 3);
                    checks.dueCommand(solver, "(pop)", 0);
                    checks.dueCommand(solver, "(assert (= a (" + three + " #b01 a)))", -1001);
                    checks.dueCommand(solver, "(assert (= a (" + two + " a #b01)))", 1);
                    checks.due("terms()", solver.terms(), 7);
                }
            }
        }
    }

    private void dearTermsInOneText() {
        for (String op : DEAR) {
            TermSolver solver = checks.after("(declare-const a (_ BitVec 2))");
            checks.dueCommand(solver, "(assert (= (" + op + " a (" + op + " a (" + op + " a a))) a))", -1001);
            checks.dueCommand(solver, "(assert (let ((x (" + op + " a (" + op + " a (" + op + " a a))))) true))", -1001);
            checks.due("terms()", solver.terms(), 1);
            checks.dueCommand(solver, "(assert (= (" + op + " a (" + op + " a a)) (" + op + " a a)))", 1);
            checks.due("terms()", solver.terms(), 4);
            // Equal ones are one, of another width or order they are others.
            checks.dueCommand(solver, "(assert (= (" + op + " #b1 #b1) #b1))", -1001);
            checks.dueCommand(solver, "(assert (= (" + op + " (" + op + " a a) a) a))", -1001);
            checks.dueCommand(solver, "(assert (= (" + op + " a a) (" + op + " a a)))", 2);
        }
    }

    private void cheapTermsAreNotDear() {
        TermSolver solver = checks.after("(declare-const a (_ BitVec 2))");
        for (int k = 0; k < CHEAP.length; k++) {
            checks.dueCommand(solver, "(assert (= (" + CHEAP[k] + " a a) (" + CHEAP[k] + " a #b01)))", k + 1);
        }
        checks.dueCommand(solver, "(assert (= (bvmul a a) (bvurem a a)))", 9);
    }

    private void tooMuchComesBeforeTooManyTerms() {
        TermSolver solver = withTerms(60);
        checks.dueCommand(solver, "(declare-const a Bool)", -1001);
        checks.dueCommand(solver, "(declare-const a (Array (_ BitVec 1) (_ BitVec 4)))", -1001);
        checks.dueCommand(solver, "(declare-const true Bool)", -1 - 15);
        solver = checks.after("(declare-const a (_ BitVec 4))", "(declare-const b (_ BitVec 4))");
        for (int k = 1; k <= 12; k++) {
            checks.dueCommand(solver, "(assert (= a b))", k);
        }
        checks.dueCommand(solver, "(assert (= (bvmul a b) (bvmul (bvmul b a) b)))", -1000);
        checks.dueCommand(solver, "(assert (= (bvmul a b) (bvmul (bvmul b a) b))", -1 - 45);
        checks.dueCommand(solver, "(assert (= (bvmul a b) (bvmul (bvmul b a) p)))", -1 - 42);
        checks.dueCommand(solver, "(declare-const c Bool)", -1000);
        checks.dueCommand(solver, "(declare-const a Bool)", -1 - 15);
        checks.dueCommand(solver, "(declare-const c Bool) (", -1 - 23);
        bitsBeforeTerms();
    }

    /** With 60 terms, 8 bits of them there: both limits are reached, and the bits are told. */
    private void bitsBeforeTerms() {
        TermSolver solver = withTerms(59);
        checks.dueCommand(solver, "(declare-const a (Array (_ BitVec 1) (_ BitVec 4)))", 1);
        checks.due("terms()", solver.terms(), 60);
        checks.dueCommand(solver, "(declare-const b Bool)", -1000);
        checks.dueCommand(solver, "(pop)", 0);
        checks.dueCommand(solver, "(declare-const b Bool)", -1001);
    }
}
