/** Promise 5: value tells the least values that make all that is asserted hold. */
public final class ValueTest {
    public static void main(String[] args) {
        Checks checks = new Checks();
        onlyOfConstantsAndModels(checks);
        theLeastBitsInTheOrderOfDeclaration(checks);
        valuesOfArrays(checks);
        constantsOfScopes(checks);
        eachValueOfEachSort(checks);
        theLesserOfTwoRows(checks);
        nothingAsserted(checks);
        otherConstantsAfterAPop(checks);
        eightConstants(checks);
        checks.end("ValueTest");
    }

    private static void onlyOfConstantsAndModels(Checks checks) {
        TermSolver solver = checks.after("(declare-const a (_ BitVec 3))", "(declare-const p Bool)");
        checks.due("value(0) before check()", solver.value(0), -1);
        checks.due("check()", solver.check(), 1);
        checks.due("value(0)", solver.value(0), 0);
        checks.due("value(1)", solver.value(1), 0);
        for (int k : new int[] {2, 3, 7, 8, 100, -1, -8, Integer.MIN_VALUE, Integer.MAX_VALUE}) {
            checks.due("value(" + k + ")", solver.value(k), -1);
        }
        checks.dueCommand(solver, "(assert (and p (bvult a #b000)))", 1);
        checks.due("value(0) when the model is dropped", solver.value(0), -1);
        checks.due("check()", solver.check(), 0);
        checks.due("value(0) when there is a core", solver.value(0), -1);
        checks.due("value(1) when there is a core", solver.value(1), -1);
    }

    private static void theLeastBitsInTheOrderOfDeclaration(Checks checks) {
        TermSolver solver = checks.after("(declare-const a (_ BitVec 4))", "(declare-const b (_ BitVec 3))",
                "(declare-const p Bool)", "(assert (bvult #b0101 a))", "(assert (distinct a #b0110))");
        dueValues(checks, solver, 7, 0, 0);
        checks.dueCommand(solver, "(assert (= p (= b #b000)))", 3);
        dueValues(checks, solver, 7, 0, 1);
        checks.dueCommand(solver, "(assert (not p))", 4);
        dueValues(checks, solver, 7, 1, 0);
        checks.dueCommand(solver, "(assert (bvslt b #b000))", 5);
        dueValues(checks, solver, 7, 4, 0);
        checks.dueCommand(solver, "(assert (= ((_ extract 2 0) (bvadd a #b0001)) b))", 6);
        dueValues(checks, solver, 11, 4, 0);
        // The first constant is least before the second one is looked at.
        solver = checks.after("(declare-const a (_ BitVec 2))", "(declare-const b (_ BitVec 2))",
                "(assert (or (and (= a #b01) (= b #b11)) (and (= a #b10) (= b #b00))))");
        dueValues(checks, solver, 1, 3);
        // The lowest bit of a counts less than its highest one.
        solver = checks.after("(declare-const a (_ BitVec 2))", "(assert (distinct ((_ extract 1 1) a) ((_ extract 0 0) a)))");
        dueValues(checks, solver, 1);
        // The bits of x go from the first constant up, those of the model from its highest bit down.
        solver = checks.after("(declare-const p Bool)", "(declare-const q Bool)", "(assert (xor p q))");
        dueValues(checks, solver, 0, 1);
    }

    private static void valuesOfArrays(Checks checks) {
        TermSolver solver = checks.after("(declare-const m (Array (_ BitVec 1) (_ BitVec 3)))",
                "(assert (= (select m #b0) #b101))", "(push)");
        dueValues(checks, solver, 5);
        checks.dueCommand(solver, "(assert (= (select m #b1) #b011))", 2);
        dueValues(checks, solver, 5 + 8 * 3);
        checks.dueCommand(solver, "(pop)", 0);
        checks.dueCommand(solver, "(assert (bvult (select m #b0) (select m #b1)))", 2);
        dueValues(checks, solver, 5 + 8 * 6);
        // Element 1 has the highest bits, so it is made least first.
        solver = checks.after("(declare-const m (Array (_ BitVec 1) (_ BitVec 2)))",
                "(assert (distinct (select m #b0) (select m #b1)))");
        dueValues(checks, solver, 1);
        solver = checks.after("(declare-const m (Array (_ BitVec 1) (_ BitVec 4)))",
                "(assert (= m (store (store m #b0 #b1111) #b1 #b1110)))");
        dueValues(checks, solver, 15 + 16 * 14);
    }

    private static void constantsOfScopes(Checks checks) {
        TermSolver solver = checks.after("(declare-const a (_ BitVec 2))", "(push)", "(declare-const b (_ BitVec 2))",
                "(assert (= (bvadd a b) #b11))", "(assert (bvult #b00 a))");
        dueValues(checks, solver, 1, 2);
        checks.due("value(2)", solver.value(2), -1);
        checks.dueCommand(solver, "(pop)", 0);
        checks.due("check()", solver.check(), 1);
        dueValues(checks, solver, 0);
        checks.due("value(1) of a constant that was taken away", solver.value(1), -1);
        checks.dueCommand(solver, "(declare-const c (Array (_ BitVec 1) (_ BitVec 3)))", 2);
        checks.dueCommand(solver, "(declare-const b Bool)", -1000);
        checks.dueCommand(solver, "(assert (= (select c #b1) #b111))", 1);
        dueValues(checks, solver, 0, 56);
    }

    private static String word(int width, int value) {
        return "#b" + Integer.toBinaryString(1 << width | value).substring(1);
    }

    private static void eachValueOfEachSort(Checks checks) {
        dueValues(checks, checks.after("(declare-const p Bool)", "(assert (not p))"), 0);
        dueValues(checks, checks.after("(declare-const p Bool)", "(assert p)"), 1);
        for (int w = 1; w <= 4; w++) {
            String a = "(declare-const a (_ BitVec " + w + "))";
            String m = "(declare-const m (Array (_ BitVec 1) (_ BitVec " + w + ")))";
            for (int low = 0; low < 1 << w; low++) {
                dueValues(checks, checks.after(a, "(assert (= a " + word(w, low) + "))"), low);
                for (int high = 0; high < 1 << w; high++) {
                    TermSolver solver = checks.after(m, "(assert (= (select m #b0) " + word(w, low) + "))",
                            "(assert (= (select m #b1) " + word(w, high) + "))");
                    dueValues(checks, solver, low + (high << w));
                }
            }
        }
    }

    /** Of two rows of bits that hold the one is kept that has a 0 where they differ first. */
    private static void theLesserOfTwoRows(Checks checks) {
        String[] sorts = {"Bool", "(_ BitVec 2)", "(Array (_ BitVec 1) (_ BitVec 1))"};
        for (int first = 0; first < 16; first++) {
            for (int second = 0; second < 16; second++) {
                TermSolver solver = checks.after("(declare-const a (_ BitVec 2))", "(declare-const b (_ BitVec 2))",
                        "(assert (or (= (concat a b) " + word(4, first) + ") (= (concat a b) " + word(4, second) + ")))");
                int least = Math.min(first, second);
                dueValues(checks, solver, least >> 2, least & 3);
                solver = checks.after("(declare-const b (_ BitVec 1))", "(declare-const a (_ BitVec 3))",
                        "(assert (or (= (concat a b) " + word(4, first) + ") (= (concat a b) " + word(4, second) + ")))");
                least = (first & 1) == (second & 1) ? Math.min(first, second) : (first & 1) == 0 ? first : second;
                dueValues(checks, solver, least & 1, least >> 1);
                solver = checks.after("(declare-const m (Array (_ BitVec 1) (_ BitVec 2)))",
                        "(assert (let ((x (concat (select m #b1) (select m #b0)))) (or (= x " + word(4, first) + ") (= x "
                        + word(4, second) + "))))");
                dueValues(checks, solver, Math.min(first, second));
            }
        }
        for (String sort : sorts) {
            TermSolver solver = checks.after("(declare-const a " + sort + ")", "(declare-const b " + sort + ")",
                    "(assert (distinct a b))");
            dueValues(checks, solver, 0, 1);
        }
    }

    private static void nothingAsserted(Checks checks) {
        TermSolver solver = checks.after("(declare-const p Bool)", "(declare-const a (_ BitVec 3))",
                "(declare-const m (Array (_ BitVec 1) (_ BitVec 2)))");
        dueValues(checks, solver, 0, 0, 0, -1);
        solver = checks.after("(declare-const a (_ BitVec 4))", "(declare-const b (_ BitVec 4))",
                "(assert (= (bvand a b) #b1111))");
        dueValues(checks, solver, 15, 15, -1);
    }

    /** Nothing of the constants that were there before counts for those that are there now. */
    private static void otherConstantsAfterAPop(Checks checks) {
        TermSolver solver = checks.after("(push)", "(declare-const a (_ BitVec 4))", "(assert (distinct a #b0000))");
        dueValues(checks, solver, 1, -1);
        checks.dueCommand(solver, "(pop)", 0);
        checks.dueCommand(solver, "(push)", 1);
        checks.dueCommand(solver, "(declare-const p Bool)", 1);
        checks.dueCommand(solver, "(declare-const q Bool)", 2);
        checks.dueCommand(solver, "(assert (or p q))", 1);
        dueValues(checks, solver, 0, 1, -1);
        checks.dueCommand(solver, "(declare-const r (_ BitVec 2))", 3);
        checks.dueCommand(solver, "(assert (distinct r (ite q #b01 #b00)))", 2);
        dueValues(checks, solver, 0, 1, 0, -1);
        checks.dueCommand(solver, "(pop)", 0);
        dueValues(checks, solver, -1);
        checks.dueCommand(solver, "(declare-const m (Array (_ BitVec 1) (_ BitVec 2)))", 1);
        checks.dueCommand(solver, "(declare-const b (_ BitVec 3))", 2);
        checks.dueCommand(solver, "(assert (= ((_ zero_extend 1) (select m #b1)) (bvnot b)))", 1);
        dueValues(checks, solver, 0, 7, -1);
    }

    private static void eightConstants(Checks checks) {
        TermSolver solver = new TermSolver();
        for (int k = 0; k < 8; k++) {
            checks.dueCommand(solver, "(declare-const " + (char) ('a' + k) + " Bool)", k + 1);
        }
        dueValues(checks, solver, 0, 0, 0, 0, 0, 0, 0, 0, -1);
        checks.dueCommand(solver, "(assert (and (xor a b) (and (= b c) (and (distinct g h) (or d e)))))", 1);
        dueValues(checks, solver, 0, 1, 1, 0, 1, 0, 0, 1, -1);
        checks.dueCommand(solver, "(assert (and (not h) (=> e f)))", 2);
        dueValues(checks, solver, 0, 1, 1, 0, 1, 1, 1, 0, -1);
    }

    private static void dueValues(Checks checks, TermSolver solver, int... want) {
        checks.due("check()", solver.check(), 1);
        for (int k = 0; k < want.length; k++) {
            checks.due("value(" + k + ")", solver.value(k), want[k]);
        }
    }
}
