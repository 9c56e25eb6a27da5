/** Promise 3: command does what is typed, and tells how many there are then, or what is wrong. */
public final class CommandTest {
    public static void main(String[] args) {
        Checks checks = new Checks();
        tellsHowManyThereAre(checks);
        readsSpacesAnywhere(checks);
        namesOfPoppedConstantsAreFree(checks);
        refusesTooManyBits(checks);
        refusesTooManyAssertions(checks);
        refusesTooManyScopes(checks);
        refusesTooManyTerms(checks);
        aConstantIsTheLastTerm(checks);
        namesOfLetsEnd(checks);
        refusesTooManyHeavyTerms(checks);
        faultsComeBeforeLimits(checks);
        aRefusedCommandChangesNothing(checks);
        onlyADoneCommandDropsWhatIsKept(checks);
        checks.end("CommandTest");
    }

    private static void tellsHowManyThereAre(Checks checks) {
        TermSolver solver = new TermSolver();
        checks.dueCommand(solver, "(declare-const a Bool)", 1);
        checks.dueCommand(solver, "(declare-const b (_ BitVec 1))", 2);
        checks.dueCommand(solver, "(push)", 1);
        checks.dueCommand(solver, "(declare-const c (Array (_ BitVec 1) (_ BitVec 2)))", 3);
        checks.dueCommand(solver, "(assert a)", 1);
        checks.dueCommand(solver, "(assert a)", 2);
        checks.dueCommand(solver, "(push)", 2);
        checks.dueCommand(solver, "(assert (= c c))", 3);
        checks.dueCommand(solver, "(pop)", 1);
        checks.dueCommand(solver, "(assert (= b (select c b)))", -14);
        checks.dueCommand(solver, "(assert (= b b))", 3);
        checks.dueCommand(solver, "(pop)", 0);
        checks.due("command() with nothing typed", solver.command(), -1);
        checks.due("constants", solver.count(0), 2);
        checks.due("assertions", solver.count(1), 0);
    }

    private static void readsSpacesAnywhere(Checks checks) {
        TermSolver solver = new TermSolver();
        checks.dueCommand(solver, "   (   declare-const   m(Array(_ BitVec 1)(  _   BitVec 2  )  )  )   ", 1);
        checks.dueCommand(solver, "(declare-const i(_ BitVec 1))", 2);
        checks.dueCommand(solver, "(assert(let((x(select m i)))(=((_ extract 1 0)x)#b10)))", 1);
        checks.dueCommand(solver, " ( assert ( let ( ( x ( select m i ) ) ) ( = ( ( _ extract 1 0 ) x ) #b10 ) ) ) ", 2);
        checks.due("terms() of the same text twice", solver.terms(), 6);
        checks.dueCommand(solver, "( push ) ", 1);
        checks.dueCommand(solver, "(assert (= m (store m i#b10)))", -23);
    }

    private static void namesOfPoppedConstantsAreFree(Checks checks) {
        TermSolver solver = checks.after("(push)", "(declare-const a Bool)", "(assert a)", "(pop)");
        checks.dueCommand(solver, "(assert a)", -9);
        checks.dueCommand(solver, "(declare-const a (_ BitVec 4))", 1);
        checks.dueCommand(solver, "(assert (bvult a #b0001))", 1);
        checks.due("check()", solver.check(), 1);
        checks.dueCommand(solver, "(declare-const a Bool)", -16);
        checks.dueCommand(solver, "(push)", 1);
        checks.dueCommand(solver, "(declare-const a Bool)", -16);
    }

    private static void refusesTooManyBits(Checks checks) {
        TermSolver solver = checks.after("(declare-const a (_ BitVec 4))", "(declare-const b (_ BitVec 3))");
        checks.dueCommand(solver, "(declare-const c (_ BitVec 2))", -1000);
        checks.dueCommand(solver, "(declare-const c (Array (_ BitVec 1) (_ BitVec 1)))", -1000);
        checks.dueCommand(solver, "(declare-const c (_ BitVec 1))", 3);
        checks.dueCommand(solver, "(declare-const d Bool)", -1000);
        checks.due("constants", solver.count(0), 3);
        checks.due("terms()", solver.terms(), 3);
        solver = checks.after("(push)", "(declare-const a (Array (_ BitVec 1) (_ BitVec 4)))");
        checks.dueCommand(solver, "(declare-const b Bool)", -1000);
        checks.dueCommand(solver, "(pop)", 0);
        checks.dueCommand(solver, "(declare-const b Bool)", 1);
        checks.dueCommand(solver, "(declare-const a (Array (_ BitVec 1) (_ BitVec 4)))", -1000);
        checks.dueCommand(solver, "(declare-const a (Array (_ BitVec 1) (_ BitVec 3)))", 2);
    }

    private static void refusesTooManyAssertions(Checks checks) {
        TermSolver solver = new TermSolver();
        checks.dueCommand(solver, "(push)", 1);
        for (int k = 1; k <= 12; k++) {
            checks.dueCommand(solver, "(assert true)", k);
        }
        checks.dueCommand(solver, "(assert true)", -1000);
        checks.dueCommand(solver, "(assert false)", -1000);
        checks.due("terms()", solver.terms(), 1);
        checks.dueCommand(solver, "(pop)", 0);
        checks.dueCommand(solver, "(assert false)", 1);
    }

    private static void refusesTooManyScopes(Checks checks) {
        TermSolver solver = new TermSolver();
        checks.dueCommand(solver, "(pop)", -1000);
        for (int k = 1; k <= 4; k++) {
            checks.dueCommand(solver, "(push)", k);
        }
        checks.dueCommand(solver, "(push)", -1000);
        checks.dueCommand(solver, "(push)", -1000);
        for (int k = 3; k >= 0; k--) {
            checks.dueCommand(solver, "(pop)", k);
        }
        checks.dueCommand(solver, "(pop)", -1000);
    }

    /** Makes an object that holds 58 terms, no constant and one assertion. */
    private static TermSolver with58Terms(Checks checks) {
        TermSolver solver = new TermSolver();
        checks.dueCommand(solver, "(push)", 1);
        for (int width = 1; width <= 4; width++) {
            for (int value = 0; value < 1 << width; value += 2) {
                String word = "#b" + Integer.toBinaryString(1 << width | value).substring(1);
                String next = "#b" + Integer.toBinaryString(1 << width | value + 1).substring(1);
                Checks.command(solver, "(assert (= " + word + " " + next + "))");
                if (solver.count(1) == 12) {
                    checks.dueCommand(solver, "(pop)", 0);
                    checks.dueCommand(solver, "(push)", 1);
                }
            }
        }
        checks.due("terms() of 30 words and 15 equations", solver.terms(), 45);
        checks.dueCommand(solver, "(pop)", 0);
        checks.dueCommand(solver, "(assert (not (not (not (not (not (not (not true))))))))", 1);
        checks.due("terms() with 8 more", solver.terms(), 53);
        checks.dueCommand(solver, "(assert (and true (or true (xor true (=> true (not true))))))", 2);
        checks.due("terms() with 4 more", solver.terms(), 57);
        checks.dueCommand(solver, "(assert (= true true))", 3);
        checks.due("terms() with one more", solver.terms(), 58);
        return solver;
    }

    private static void refusesTooManyTerms(Checks checks) {
        TermSolver solver = with58Terms(checks);
        checks.dueCommand(solver, "(assert (and (or false true) true))", -1001);
        checks.due("terms() after a refusal", solver.terms(), 58);
        checks.due("assertions after a refusal", solver.count(1), 3);
        checks.dueCommand(solver, "(declare-const a Bool)", 1);
        checks.dueCommand(solver, "(assert (xor a a))", 4);
        checks.due("terms()", solver.terms(), 60);
        checks.dueCommand(solver, "(declare-const b Bool)", -1001);
        checks.dueCommand(solver, "(declare-const b (Array (_ BitVec 1) (_ BitVec 4)))", -1000);
        checks.dueCommand(solver, "(assert (or a a))", -1001);
        checks.dueCommand(solver, "(assert false)", -1001);
        checks.dueCommand(solver, "(assert (xor a a))", 5);
        checks.dueCommand(solver, "(assert (let ((q (= true true))) (xor a a)))", 6);
        checks.dueCommand(solver, "(assert (let ((q false)) (xor a a)))", -1001);
        checks.dueCommand(solver, "(push)", 1);
        checks.dueCommand(solver, "(pop)", 0);
        for (int k = 7; k <= 12; k++) {
            checks.dueCommand(solver, "(assert a)", k);
        }
        checks.dueCommand(solver, "(assert (or a a))", -1000);
        checks.due("check() with 60 terms", solver.check(), 0);
        checks.due("terms() at the end", solver.terms(), 60);
    }

    private static void aConstantIsTheLastTerm(Checks checks) {
        TermSolver solver = with58Terms(checks);
        checks.dueCommand(solver, "(declare-const a Bool)", 1);
        checks.dueCommand(solver, "(declare-const b Bool)", 2);
        checks.due("terms()", solver.terms(), 60);
        checks.dueCommand(solver, "(declare-const c Bool)", -1001);
        checks.due("constants", solver.count(0), 2);
        checks.dueCommand(solver, "(assert b)", 4);
        checks.dueCommand(solver, "(assert c)", -9);
        checks.due("holds(3, 2)", solver.holds(3, 2), 1);
    }

    private static void namesOfLetsEnd(Checks checks) {
        TermSolver solver = checks.after("(declare-const p Bool)");
        checks.dueCommand(solver, "(assert (let ((x p)) (let ((y x)) (and x y))))", 1);
        checks.dueCommand(solver, "(assert x)", -9);
        checks.dueCommand(solver, "(assert (let ((x p)) z))", -22);
        checks.dueCommand(solver, "(assert (or x p))", -13);
        checks.dueCommand(solver, "(assert y)", -9);
        checks.dueCommand(solver, "(declare-const x Bool)", 2);
        checks.dueCommand(solver, "(assert (let ((p x)) p))", 2);
        checks.due("holds(1, 2)", solver.holds(1, 2), 1);
        checks.due("holds(1, 1)", solver.holds(1, 1), 0);
    }

    private static void refusesTooManyHeavyTerms(Checks checks) {
        TermSolver solver = checks.after("(declare-const a (_ BitVec 3))", "(push)");
        checks.dueCommand(solver, "(assert (= (bvmul a a) (bvudiv a a)))", 1);
        checks.dueCommand(solver, "(assert (= (bvmul a a) #b001))", 2);
        checks.dueCommand(solver, "(assert (= (bvurem a a) #b001))", -1001);
        checks.due("terms()", solver.terms(), 6);
        checks.dueCommand(solver, "(assert (= (bvmul a #b001) #b001))", -1001);
        checks.dueCommand(solver, "(assert (let ((b (bvudiv a #b001))) true))", -1001);
        checks.dueCommand(solver, "(assert (= (bvadd a a) #b001))", 3);
        checks.dueCommand(solver, "(pop)", 0);
        checks.dueCommand(solver, "(assert (= (bvurem a a) #b001))", -1001);
        checks.dueCommand(solver, "(assert (= (bvudiv a a) (bvmul a a)))", 1);
        solver = checks.after("(declare-const a (_ BitVec 2))");
        checks.dueCommand(solver, "(assert (= (bvurem a (bvurem a (bvurem a a))) a))", -1001);
        checks.dueCommand(solver, "(assert (= (bvurem a (bvurem a #b11)) a))", 1);
        checks.dueCommand(solver, "(assert (= a (bvmul a #b11)))", -1001);
    }

    private static void faultsComeBeforeLimits(Checks checks) {
        TermSolver solver = checks.after("(declare-const a (Array (_ BitVec 1) (_ BitVec 4)))");
        checks.dueCommand(solver, "(declare-const a Bool)", -16);
        checks.dueCommand(solver, "(declare-const b Bool) x", -24);
        checks.dueCommand(solver, "(pop x)", -6);
        checks.dueCommand(solver, "(pop)(", -6);
        for (int k = 1; k <= 12; k++) {
            checks.dueCommand(solver, "(assert true)", k);
        }
        checks.dueCommand(solver, "(assert a)", -9);
        checks.dueCommand(solver, "(assert (= (bvmul #b1 #b1) (bvmul (bvmul #b0 #b1) (bvmul #b1 #b0))) .", -69);
    }

    private static void aRefusedCommandChangesNothing(Checks checks) {
        TermSolver solver = checks.after("(declare-const a (_ BitVec 4))", "(assert (bvult #b0101 a))");
        checks.due("terms()", solver.terms(), 3);
        checks.dueCommand(solver, "(assert (and (= a #b1111) (= a #b1110)) x)", -41);
        checks.due("terms() after a fault behind good terms", solver.terms(), 3);
        checks.dueCommand(solver, "(assert (= (bvmul a a) (bvmul (bvudiv a a) a)))", -1001);
        checks.due("terms() after too many", solver.terms(), 3);
        checks.due("assertions", solver.count(1), 1);
        checks.due("constants", solver.count(0), 1);
        checks.due("command() with nothing typed any more", solver.command(), -1);
        checks.dueCommand(solver, "(assert (= (bvmul a a) (bvudiv a a)))", 2);
        checks.due("terms() of what could be held", solver.terms(), 6);
        checks.due("check()", solver.check(), 1);
        checks.due("value(0)", solver.value(0), 7);
    }

    private static void onlyADoneCommandDropsWhatIsKept(Checks checks) {
        String[] notDone = {"", "(", "(assert true) x", "(pop)", "(declare-const b (Array (_ BitVec 1) (_ BitVec 4)))",
                "(assert (= (bvmul #b1 #b1) (bvmul (bvmul #b0 #b1) #b0)))"};
        String[] done = {"(push)", "(assert true)", "(declare-const b Bool)", "(assert a)"};
        for (String text : notDone) {
            TermSolver solver = checks.after("(declare-const a Bool)", "(assert a)");
            solver.check();
            checks.due("not done: " + text, Checks.command(solver, text) < 0, true);
            checks.due("value(0) after " + text, solver.value(0), 1);
        }
        for (String text : done) {
            TermSolver solver = checks.after("(declare-const a Bool)", "(assert a)");
            solver.check();
            checks.due("done: " + text, Checks.command(solver, text) >= 0, true);
            checks.due("value(0) after " + text, solver.value(0), -1);
            solver = checks.after("(declare-const a Bool)", "(assert (not a))", "(assert a)");
            checks.due("check()", solver.check(), 0);
            checks.due("done: " + text, Checks.command(solver, text) >= 0, true);
            checks.due("core(0) after " + text, solver.core(0), false);
            checks.due("core(1) after " + text, solver.core(1), false);
        }
        TermSolver solver = checks.after("(push)", "(declare-const a Bool)", "(assert a)", "(push)");
        solver.check();
        checks.dueCommand(solver, "(pop)", 1);
        checks.due("value(0) after (pop)", solver.value(0), -1);
    }
}
