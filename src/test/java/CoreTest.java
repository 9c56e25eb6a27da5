import java.util.Arrays;

/** Promise 6: core tells which assertions are left when each that can be spared is left out in order. */
public final class CoreTest {
    public static void main(String[] args) {
        Checks checks = new Checks();
        onlyOfAssertionsAndCores(checks);
        theFirstThatCanBeSparedIsLeftOut(checks);
        threeThatCannotHoldTogether(checks);
        assertionsOfScopes(checks);
        twelveAssertions(checks);
        fourOfAFew(checks);
        checks.end("CoreTest");
    }

    private static void onlyOfAssertionsAndCores(Checks checks) {
        TermSolver solver = checks.after("(declare-const p Bool)", "(assert p)", "(assert (not p))");
        checks.due("core(0) before check()", solver.core(0), false);
        dueCore(checks, solver, true, true);
        for (int k : new int[] {2, 3, 11, 12, 31, 32, 33, 64, -1, -31, -32, Integer.MIN_VALUE, Integer.MAX_VALUE}) {
            checks.due("core(" + k + ")", solver.core(k), false);
        }
        solver = checks.after("(declare-const p Bool)", "(assert p)");
        checks.due("check()", solver.check(), 1);
        checks.due("core(0) when there is a model", solver.core(0), false);
    }

    private static void theFirstThatCanBeSparedIsLeftOut(Checks checks) {
        String p = "(declare-const p Bool)";
        dueCore(checks, checks.after("(assert false)"), true);
        dueCore(checks, checks.after("(assert false)", "(assert false)"), false, true);
        dueCore(checks, checks.after("(assert false)", "(assert true)"), true, false);
        dueCore(checks, checks.after(p, "(assert p)", "(assert (not p))", "(assert p)"), false, true, true);
        dueCore(checks, checks.after(p, "(assert p)", "(assert (not p))", "(assert false)"), false, false, true);
        dueCore(checks, checks.after(p, "(assert false)", "(assert (not p))", "(assert p)"), false, true, true);
        dueCore(checks, checks.after(p, "(assert (or p p))", "(assert true)", "(assert (not p))"), true, false, true);
    }

    private static void threeThatCannotHoldTogether(Checks checks) {
        TermSolver solver = checks.after("(declare-const a (_ BitVec 3))", "(declare-const b (_ BitVec 3))",
                "(assert (bvult a b))", "(assert (bvule b #b111))", "(assert (bvult b #b010))", "(assert (bvult #b000 a))");
        dueCore(checks, solver, true, false, true, true);
        solver = checks.after("(declare-const p Bool)", "(declare-const q Bool)", "(declare-const r Bool)",
                "(assert (xor p q))", "(assert (xor q r))", "(assert (or p (or q r)))", "(assert (xor p r))");
        dueCore(checks, solver, true, true, false, true);
        solver = checks.after("(declare-const a (_ BitVec 4))", "(assert (bvult a #b1000))", "(assert (bvult #b0111 a))",
                "(assert (bvult a #b0100))", "(assert (= a #b1111))");
        dueCore(checks, solver, false, false, true, true);
    }

    private static void assertionsOfScopes(Checks checks) {
        TermSolver solver = checks.after("(declare-const a (_ BitVec 2))", "(assert (bvult a #b10))", "(push)",
                "(assert (distinct a #b00))", "(push)", "(assert (= a #b11))", "(assert (distinct a #b01))");
        dueCore(checks, solver, true, false, true, false);
        checks.dueCommand(solver, "(pop)", 1);
        checks.due("core(0) after (pop)", solver.core(0), false);
        checks.due("check()", solver.check(), 1);
        checks.dueCommand(solver, "(assert (distinct a #b01))", 3);
        dueCore(checks, solver, true, true, true);
        checks.due("core(3) of an assertion that was taken away", solver.core(3), false);
        checks.due("core(0) once more", solver.core(0), true);
    }

    private static void twelveAssertions(Checks checks) {
        TermSolver solver = checks.after("(declare-const a (_ BitVec 4))");
        for (int k = 0; k < 11; k++) {
            String word = "#b" + Integer.toBinaryString(16 | k).substring(1);
            checks.dueCommand(solver, "(assert (distinct a " + word + "))", k + 1);
        }
        checks.dueCommand(solver, "(assert (bvult a #b1011))", 12);
        checks.due("check()", solver.check(), 0);
        for (int k = 0; k < 12; k++) {
            checks.due("core(" + k + ")", solver.core(k), true);
        }
        checks.due("core(12)", solver.core(12), false);
    }

    private static void dueCore(Checks checks, TermSolver solver, boolean... want) {
        checks.due("check()", solver.check(), 0);
        for (int k = 0; k < want.length; k++) {
            checks.due("core(" + k + ")", solver.core(k), want[k]);
        }
    }

    /** The core by the document's words: sets of values of two constants of truth are bits of an int. */
    private static void fourOfAFew(Checks checks) {
        String[] terms = {"true", "false", "p", "q", "(not p)", "(not q)", "(and p q)", "(or p q)", "(xor p q)", "(= p q)"};
        int[] holding = {0xf, 0, 0xa, 0xc, 0x5, 0x3, 0x8, 0xe, 0x6, 0x9};
        for (int row = 0; row < 10 * 10 * 10 * 10; row++) {
            int[] chosen = {row % 10, row / 10 % 10, row / 100 % 10, row / 1000};
            int all = 0xf;
            for (int k : chosen) {
                all &= holding[k];
            }
            if (all != 0 || row % 3 != 0) {
                continue;
            }
            TermSolver solver = checks.after("(declare-const p Bool)", "(declare-const q Bool)");
            for (int k : chosen) {
                Checks.command(solver, "(assert " + terms[k] + ")");
            }
            dueCore(checks, solver, coreOf(chosen, holding));
        }
    }

    private static boolean[] coreOf(int[] chosen, int[] holding) {
        boolean[] left = new boolean[chosen.length];
        Arrays.fill(left, true);
        for (int k = 0; k < chosen.length; k++) {
            int others = 0xf;
            for (int other = 0; other < chosen.length; other++) {
                others &= other == k || !left[other] ? 0xf : holding[chosen[other]];
            }
            left[k] = others != 0;
        }
        return left;
    }
}
