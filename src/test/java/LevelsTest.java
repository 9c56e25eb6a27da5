/** 'Terms', the sentence of levels: a term of the level 8 may be there, one of the level 9 is at fault. */
public final class LevelsTest {
    /** Heads with their parts; the first part stands behind the mark. */
    private static final String[] TRUTHS = {"(not ^p)", "(and ^p p)", "(or ^p p)", "(xor ^p p)", "(=> ^p p)", "(= ^p p)",
        "(= ^w w)", "(= ^m m)", "(distinct ^w w)", "(ite ^p p p)", "(bvult ^w w)", "(bvule ^w w)", "(bvslt ^w w)",
        "(bvsle ^w w)", "(let ((x ^p)) x)", "(let ((x ^w)) p)", "(let ((x ^m)) p)"};
    private static final String[] OTHERS = {"(bvnot ^w)", "(bvneg ^w)", "(bvand ^w w)", "(bvor ^w w)", "(bvxor ^w w)",
        "(bvadd ^w w)", "(bvsub ^w w)", "(bvmul ^w w)", "(bvudiv ^w w)", "(bvurem ^w w)", "(bvshl ^w w)", "(bvlshr ^w w)",
        "(bvashr ^w w)", "(concat ^#b1 #b0)", "((_ extract 1 0) ^w)", "((_ zero_extend 0) ^w)", "((_ sign_extend 0) ^w)",
        "(concat ^(select m #b0) #b0)", "(ite ^p w w)", "(let ((x ^w)) x)", "(let ((x ^p)) w)"};

    private final Checks checks = new Checks();

    public static void main(String[] args) {
        LevelsTest test = new LevelsTest();
        test.nestsOfEachDepth();
        test.partsOfEachTerm();
        test.laterPartsAreAsDeep();
        test.namesHaveTheLevelWhereTheyStand();
        test.letsOfEachDepth();
        test.whateverStandsThere();
        test.checks.end("LevelsTest");
    }

    private TermSolver solver() {
        return checks.after("(declare-const p Bool)", "(declare-const w (_ BitVec 2))",
                "(declare-const m (Array (_ BitVec 1) (_ BitVec 1)))");
    }

    /** The fault is at the mark, or there is none if the text has no mark. */
    private void dueAtMark(String marked) {
        int place = marked.indexOf('^');
        checks.dueCommand(solver(), marked.replace("^", ""), place < 0 ? 1 : -1 - place);
    }

    private static String inNots(int nots, String term) {
        return "(assert " + "(not ".repeat(nots) + term + ")".repeat(nots) + ")";
    }

    private void nestsOfEachDepth() {
        for (int nots = 0; nots <= 7; nots++) {
            dueAtMark(inNots(nots, "p"));
            dueAtMark(inNots(nots, "true"));
        }
        for (int nots = 8; nots <= 14; nots++) {
            dueAtMark("(assert " + "(not ".repeat(8) + "^" + "(not ".repeat(nots - 8) + "p" + ")".repeat(nots + 1));
        }
    }

    private void partsOfEachTerm() {
        for (String term : TRUTHS) {
            dueAtMark(inNots(6, term.replace("^", "")));
            dueAtMark(inNots(7, term));
        }
        for (String term : OTHERS) {
            boolean selects = term.contains("select");
            dueAtMark(inNots(selects ? 4 : 5, "(= " + term.replace("^", "") + " w)"));
            dueAtMark(inNots(6, "(= " + term + " w)"));
        }
        dueAtMark(inNots(5, "(= (store m #b0 #b0) m)"));
        dueAtMark(inNots(6, "(= (store ^m #b0 #b0) m)"));
        dueAtMark(inNots(5, "(= (select m #b0) #b1)"));
        dueAtMark(inNots(6, "(= (select ^m #b0) #b1)"));
    }

    private void laterPartsAreAsDeep() {
        dueAtMark(inNots(6, "(and p (or ^p p))"));
        dueAtMark(inNots(6, "(ite p p (not ^p))"));
        dueAtMark(inNots(6, "(ite p (not ^p) p)"));
        dueAtMark(inNots(5, "(= m (store m #b0 (bvnot ^#b0)))"));
        dueAtMark(inNots(5, "(= m (store m (bvnot ^#b0) #b0))"));
        dueAtMark(inNots(5, "(= #b1 (select m (bvnot ^#b0)))"));
        dueAtMark(inNots(4, "(= #b1 (select m (bvnot #b0)))"));
        dueAtMark(inNots(6, "(and p (not ^p))"));
        dueAtMark(inNots(5, "(and p (not p))"));
        // A term that is at fault further left is told first.
        dueAtMark(inNots(6, "(and ^w (not p))"));
    }

    /** What a name stands for may be deep itself: only the name's own place counts. */
    private void namesHaveTheLevelWhereTheyStand() {
        dueAtMark("(assert (let ((x (not(not(not(not(not(not p))))))))(not(not(not(not(not(not x))))))))");
        dueAtMark("(assert (let ((x (not(not(not(not(not(not(not ^p)))))))))x))");
        dueAtMark("(assert (let ((x p))(not(not(not(not(not(not(not ^x)))))))))");
        TermSolver solver = solver();
        checks.dueCommand(solver, "(assert (not(not(not(not(not(not(not p))))))))", 1);
        checks.dueCommand(solver, "(assert (let ((x (not(not(not(not(not(not p))))))))(not(not(not(not(not(not x))))))))", 2);
        checks.due("holds of twelve nots", solver.holds(1, 1), 1);
        checks.due("holds of twelve nots", solver.holds(1, 0), 0);
    }

    private void letsOfEachDepth() {
        for (int lets = 1; lets <= 7; lets++) {
            dueAtMark("(assert " + "(let((x p))".repeat(lets) + "x" + ")".repeat(lets + 1));
        }
        dueAtMark("(assert " + "(let((x p))".repeat(7) + "(let((x ^p))x" + ")".repeat(9));
        dueAtMark("(assert " + "(let((x ".repeat(7) + "p" + "))p)".repeat(7) + ")");
        dueAtMark("(assert " + "(let((x ".repeat(8) + "^p" + "))p)".repeat(8) + ")");
        dueAtMark("(assert " + "(let((x p))".repeat(7) + "^y" + ")".repeat(8));
        dueAtMark("(assert " + "(let((x p))".repeat(7) + "(let((^not x))x" + ")".repeat(9));
    }

    private void whateverStandsThere() {
        for (String there : new String[] {"true", "#b1", "(and p p)", "x", "*", ")", "((_ extract 0 0) w)", "let", "12"}) {
            dueAtMark(inNots(8, "^" + there));
        }
        dueAtMark("(assert (not(not(not(not(not(not(not(not^");
        dueAtMark("(assert (not(not(not(not(not(not(not(not  ^");
    }
}
