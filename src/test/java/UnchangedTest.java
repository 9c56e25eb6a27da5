import java.util.ArrayList;
import java.util.List;

/**
 * 'A call that is refused changes nothing', and 'what was kept by check is dropped by a command that is
 * done': all answers are compared before and after calls that are refused, faulty, or only ask.
 */
public final class UnchangedTest {
    private static final String[] MODEL = {"(declare-const a (_ BitVec 3))", "(push)", "(declare-const b (_ BitVec 3))",
        "(assert (bvult #b010 a))", "(assert (= (bvmul a b) #b001))", "(push)", "(assert (distinct (bvudiv a b) a))", "(push)",
        "(push)", "(declare-const p Bool)"};
    private static final String[] CORE = {"(declare-const a (_ BitVec 3))", "(push)", "(declare-const b (_ BitVec 3))",
        "(assert (bvult #b010 a))", "(assert (= (bvmul a b) #b001))", "(push)", "(assert (distinct (bvudiv a b) a))", "(push)",
        "(push)", "(assert (= a #b100))", "(declare-const p Bool)"};
    /** Each text with the kind of what it answers: -1 a fault, -1000 or -1001. */
    private static final String[] FAULTY = {"", " ", "x", "(push", "(pop))", "(assert)", "(assert (and p q))", "(assert (not a))",
        "(assert (and (= a (bvneg b)) (bvult a (bvnot b))) .", "(declare-const a Bool)", "(declare-const c (_ BitVec 5))",
        "(declare-const let Bool)", "(assert (let ((x (bvneg a))) (= x y)))", "(assert (= ((_ extract 1 2) a) a))",
        "(assert (not(not(not(not(not(not(not(not p)))))))))", "(assert (= (bvurem a b) (bvurem a (bvurem b a) b)))"};
    private static final String[] TOO_MUCH = {"(push)", "(declare-const c (_ BitVec 2))",
        "(declare-const c (Array (_ BitVec 1) (_ BitVec 4)))"};
    private static final String[] TOO_MANY = {"(assert (= (bvurem a b) a))", "(assert (let ((x (bvmul b a))) p))",
        "(assert (and (= (bvneg a) (bvnot b)) (= (bvudiv b a) #b110)))"};

    /** Where answers has count(1). */
    private static final int ASSERTIONS = 1 + 2 * 5;

    private final Checks checks = new Checks();

    public static void main(String[] args) {
        UnchangedTest test = new UnchangedTest();
        for (int kept = 0; kept < 4; kept++) {
            test.afterFaults(kept);
            test.afterRefusals(kept);
            test.afterTypes(kept);
            test.afterQuestions(kept);
            test.afterCommandsThatAreDone(kept);
        }
        test.noScopeToTakeAway();
        test.twelveAssertions();
        test.sixtyTerms();
        test.checks.end("UnchangedTest");
    }

    /** Bit 0 of kept: with the core's assertions; bit 1: after a check. */
    private TermSolver solver(int kept) {
        TermSolver solver = checks.after((kept & 1) == 0 ? MODEL : CORE);
        if (kept >= 2) {
            checks.due("check()", solver.check(), (kept & 1) == 0 ? 1 : 0);
        }
        return solver;
    }

    /** All that the object answers, but for check, which might keep something. */
    private static List<Integer> answers(TermSolver solver) {
        List<Integer> answers = new ArrayList<>();
        answers.add(solver.terms());
        for (int k = -1; k < 5; k++) {
            answers.add(solver.count(k));
            answers.add(solver.value(k));
            answers.add(solver.core(k) ? 1 : 0);
            answers.add(solver.holds(k, 0x1d));
            answers.add(solver.holds(k, 0x7f));
        }
        return answers;
    }

    private void dueSame(String after, TermSolver solver, List<Integer> before, int kept) {
        checks.due("the same after " + after, answers(solver).equals(before), true);
        checks.due("nothing typed after " + after, solver.command(), -1);
        checks.due("check() after " + after, solver.check(), (kept & 1) == 0 ? 1 : 0);
        List<Integer> checked = answers(solver(kept | 2));
        checks.due("the same kept after " + after, answers(solver).equals(checked), true);
    }

    private void afterFaults(int kept) {
        for (String text : FAULTY) {
            TermSolver solver = solver(kept);
            List<Integer> before = answers(solver);
            int answer = Checks.command(solver, text);
            checks.due("faulty: " + text, answer < 0 && answer > -1000, true);
            dueSame(text, solver, before, kept);
            checks.dueCommand(solver, "(assert (= p p))", before.get(ASSERTIONS) + 1);
        }
    }

    private void afterRefusals(int kept) {
        for (String text : TOO_MUCH) {
            dueRefused(kept, text, -1000);
        }
        for (String text : TOO_MANY) {
            dueRefused(kept, text, -1001);
        }
    }

    private void dueRefused(int kept, String text, int want) {
        TermSolver solver = solver(kept);
        List<Integer> before = answers(solver);
        checks.dueCommand(solver, text, want);
        checks.dueCommand(solver, text, want);
        dueSame(text, solver, before, kept);
        checks.dueCommand(solver, "(pop)", 3);
        checks.dueCommand(solver, "(assert (= a a))", solver.count(1) + 1);
    }

    private void afterTypes(int kept) {
        TermSolver solver = solver(kept);
        List<Integer> before = answers(solver);
        checks.due("type of a character 31", solver.type(31, 1), false);
        checks.due("type of a character 127", solver.type(0x2828287f, 4), false);
        checks.due("type of five", solver.type(0x28282828, 5), false);
        dueSame("types that are refused", solver, before, kept);
        solver = solver(kept);
        checks.due("type", Checks.type(solver, "(assert p"), true);
        checks.due("the same with something typed", answers(solver).equals(before), true);
        checks.due("command() of what is typed", solver.command(), -10);
        dueSame("a text that ends too early", solver, before, kept);
    }

    private void afterQuestions(int kept) {
        TermSolver solver = solver(kept);
        List<Integer> before = answers(solver);
        for (int k : new int[] {Integer.MIN_VALUE, -1, 0, 1, 7, 8, 12, 60, Integer.MAX_VALUE}) {
            solver.value(k);
            solver.core(k);
            solver.holds(k, k);
            solver.count(k);
        }
        solver.terms();
        dueSame("questions", solver, before, kept);
        for (int n = 0; n < 3; n++) {
            checks.due("check() once more", solver.check(), (kept & 1) == 0 ? 1 : 0);
        }
        dueSame("checks", solver, answers(solver), kept);
    }

    private void afterCommandsThatAreDone(int kept) {
        for (String text : new String[] {"(pop)", "(assert true)", "(assert p)", "(declare-const q Bool)"}) {
            TermSolver solver = solver(kept);
            checks.due("done: " + text, Checks.command(solver, text) >= 0, true);
            for (int k = 0; k < 8; k++) {
                checks.due("value(" + k + ") after " + text, solver.value(k), -1);
                checks.due("core(" + k + ") after " + text, solver.core(k), false);
            }
        }
        TermSolver solver = checks.after("(declare-const a Bool)", (kept & 1) == 0 ? "(assert a)" : "(assert false)");
        solver.check();
        checks.dueCommand(solver, "(push)", 1);
        checks.due("value(0) after (push)", solver.value(0), -1);
        checks.due("core(0) after (push)", solver.core(0), false);
    }

    private void noScopeToTakeAway() {
        TermSolver solver = checks.after("(declare-const a Bool)", "(assert a)");
        solver.check();
        List<Integer> before = answers(solver);
        checks.dueCommand(solver, "(pop)", -1000);
        checks.due("the same after (pop)", answers(solver).equals(before), true);
        checks.due("value(0)", solver.value(0), 1);
    }

    private void twelveAssertions() {
        TermSolver solver = new TermSolver();
        for (int k = 1; k <= 12; k++) {
            checks.dueCommand(solver, k < 12 ? "(assert true)" : "(assert false)", k);
        }
        checks.due("check()", solver.check(), 0);
        List<Integer> before = answers(solver);
        checks.dueCommand(solver, "(assert (not (not (not false))))", -1000);
        checks.due("the same after a thirteenth one", answers(solver).equals(before), true);
        checks.due("core(11)", solver.core(11), true);
        checks.due("holds(12, 0)", solver.holds(12, 0), -1);
    }

    /** What a refused text would have made is not held, and can be made by later ones. */
    private void sixtyTerms() {
        TermSolver solver = checks.after("(declare-const p Bool)", "(assert (not(not(not(not(not(not(not p))))))))");
        for (int k = 1; k <= 6; k++) {
            String word = "#b" + Integer.toBinaryString(8 + k).substring(1);
            checks.dueCommand(solver, "(assert (= (bvneg(bvneg(bvneg(bvneg(bvneg " + word + "))))) (bvnot " + word + ")))", k + 1);
        }
        checks.due("terms()", solver.terms(), 56);
        checks.due("check()", solver.check(), 0);
        List<Integer> before = answers(solver);
        checks.dueCommand(solver, "(assert (and (or (xor p p) p) (and (or p (and p p)) p)))", -1001);
        checks.due("the same after too many terms", answers(solver).equals(before), true);
        checks.dueCommand(solver, "(assert (or (xor p p) (and p p)))", 8);
        checks.due("terms()", solver.terms(), 59);
        checks.dueCommand(solver, "(assert (and (or p p) p))", -1001);
        checks.dueCommand(solver, "(assert (or p p))", 9);
        checks.due("terms()", solver.terms(), 60);
        checks.due("holds(8, 1)", solver.holds(8, 1), 1);
    }
}
