/** Promise 7: holds tells an assertion's value when the constants have their bits from x. */
public final class HoldsTest {
    private static final String[] TWO_WORDS = {"bvand", "bvor", "bvxor", "bvadd", "bvsub", "bvmul", "bvudiv", "bvurem",
        "bvshl", "bvlshr", "bvashr"};
    private static final String[] COMPARED = {"=", "distinct", "bvult", "bvule", "bvslt", "bvsle"};

    public static void main(String[] args) {
        Checks checks = new Checks();
        bitsFromTheFirstConstantUp(checks);
        onlyOfAssertions(checks);
        writtenOutCases(checks);
        logic(checks);
        wordsOfEachWidth(checks);
        partsOfWords(checks);
        arrays(checks);
        checks.end("HoldsTest");
    }

    private static void bitsFromTheFirstConstantUp(Checks checks) {
        TermSolver solver = checks.after("(declare-const p Bool)", "(declare-const a (_ BitVec 3))",
                "(declare-const m (Array (_ BitVec 1) (_ BitVec 2)))", "(assert p)", "(assert (= a #b110))",
                "(assert (= (select m #b0) #b01))", "(assert (= (select m #b1) #b10))");
        dueHolds(checks, solver, 0, 1, 1);
        dueHolds(checks, solver, 0, 0xfe, 0);
        dueHolds(checks, solver, 1, 6 << 1, 1);
        dueHolds(checks, solver, 1, 3 << 1, 0);
        dueHolds(checks, solver, 2, 1 << 4, 1);
        dueHolds(checks, solver, 2, 2 << 4, 0);
        dueHolds(checks, solver, 3, 2 << 6, 1);
        dueHolds(checks, solver, 3, 1 << 6, 0);
        dueHolds(checks, solver, 1, 0xffffff00 | 6 << 1, 1);
        dueHolds(checks, solver, 0, Integer.MIN_VALUE, 0);
        dueHolds(checks, solver, 0, -1, 1);
        dueHolds(checks, solver, 1, -1, 0);
        checks.dueCommand(solver, "(push)", 1);
        dueHolds(checks, solver, 1, 12, 1);
        solver = checks.after("(push)", "(declare-const a (_ BitVec 4))", "(pop)", "(declare-const b (_ BitVec 2))",
                "(assert (= b #b10))");
        dueHolds(checks, solver, 0, 2, 1);
        dueHolds(checks, solver, 0, 2 << 4, 0);
    }

    private static void onlyOfAssertions(Checks checks) {
        TermSolver solver = checks.after("(assert true)", "(push)", "(assert false)");
        dueHolds(checks, solver, 0, 0, 1);
        dueHolds(checks, solver, 1, -1, 0);
        for (int k : new int[] {2, 12, 13, -1, Integer.MIN_VALUE, Integer.MAX_VALUE}) {
            dueHolds(checks, solver, k, 0, -1);
        }
        checks.dueCommand(solver, "(pop)", 0);
        dueHolds(checks, solver, 1, 0, -1);
        checks.due("check() and a model", solver.check(), 1);
        dueHolds(checks, solver, 0, 0, 1);
    }

    private static void writtenOutCases(Checks checks) {
        String[] holding = {
            "(= (bvneg #b000) #b000)", "(= (bvneg #b011) #b101)", "(= (bvnot #b0110) #b1001)",
            "(= (bvadd #b11 #b10) #b01)", "(= (bvsub #b01 #b10) #b11)", "(= (bvmul #b0101 #b0111) #b0011)",
            "(= (bvudiv #b0111 #b0010) #b0011)", "(= (bvudiv #b0111 #b0000) #b1111)", "(= (bvudiv #b0 #b0) #b1)",
            "(= (bvurem #b0111 #b0100) #b0011)", "(= (bvurem #b0111 #b0000) #b0111)", "(= (bvshl #b0111 #b0010) #b1100)",
            "(= (bvshl #b0111 #b0100) #b0000)", "(= (bvlshr #b1011 #b0001) #b0101)", "(= (bvlshr #b1011 #b1000) #b0000)",
            "(= (bvashr #b1011 #b0001) #b1101)", "(= (bvashr #b1011 #b1111) #b1111)", "(= (bvashr #b0111 #b0101) #b0000)",
            "(bvult #b011 #b100)", "(bvslt #b100 #b011)", "(bvsle #b100 #b100)", "(bvule #b000 #b000)",
            "(not (bvult #b100 #b100))", "(not (bvslt #b000 #b111))", "(= (concat #b10 #b01) #b1001)",
            "(= ((_ extract 2 1) #b0110) #b11)", "(= ((_ extract 3 3) #b0110) #b0)", "(= ((_ zero_extend 2) #b10) #b0010)",
            "(= ((_ sign_extend 2) #b10) #b1110)", "(= ((_ sign_extend 3) #b0) #b0000)", "(=> false false)", "(=> false true)",
            "(not (=> true false))", "(xor true false)", "(not (xor true true))", "(ite false false true)",
        };
        for (String term : holding) {
            dueHolds(checks, checks.after("(assert " + term + ")"), 0, 0, 1);
            dueHolds(checks, checks.after("(assert (not " + term + "))"), 0, 0, 0);
        }
    }

    private static void dueHolds(Checks checks, TermSolver solver, int k, int x, int want) {
        checks.due("holds(" + k + ", " + x + ")", solver.holds(k, x), want);
    }

    /** Does the commands here and in the Reference, and compares all assertions under all values. */
    private static void sameAsReference(Checks checks, String... commands) {
        TermSolver solver = null;
        Reference reference = new Reference();
        for (String text : commands) {
            for (char c : text.toCharArray()) {
                reference.type(c, 1);
            }
            checks.due("the Reference reads " + text, reference.command() >= 0, true);
        }
        int rows = 1 << commandBits(reference);
        for (int x = 0; x < rows; x++) {
            if (x % 32 == 0) {
                solver = checks.after(commands); // an object answers 512 calls
            }
            for (int k = 0; k < reference.count(1); k++) {
                checks.due(commands[commands.length - 1] + " holds(" + k + ", " + x + ")", solver.holds(k, x), reference.holds(k, x));
            }
        }
    }

    private static int commandBits(Reference reference) {
        int bits = 0;
        for (Reference.Constant constant : reference.constants) {
            bits += constant.node().sort().bits();
        }
        return bits;
    }

    private static String bitOf(String term, int bit) {
        return "(assert (= ((_ extract " + bit + " " + bit + ") " + term + ") #b1))";
    }

    /** Asserts each bit of a word of the given width. */
    private static void sameWord(Checks checks, String term, int width, String... declared) {
        String[] commands = new String[declared.length + width];
        for (int i = 0; i < commands.length; i++) {
            commands[i] = i < declared.length ? declared[i] : bitOf(term, i - declared.length);
        }
        sameAsReference(checks, commands);
    }

    private static void logic(Checks checks) {
        sameAsReference(checks, "(declare-const p Bool)", "(declare-const q Bool)", "(declare-const r Bool)",
                "(assert (not p))", "(assert (and p q))", "(assert (or p q))", "(assert (xor p q))", "(assert (=> p q))",
                "(assert (= p q))", "(assert (distinct p q))", "(assert (ite p q r))", "(assert (ite p p r))",
                "(assert (ite p q p))", "(assert (ite (not p) p (not p)))", "(assert (ite p (not p) r))");
    }

    private static void wordsOfEachWidth(Checks checks) {
        for (int w = 1; w <= 4; w++) {
            String a = "(declare-const a (_ BitVec " + w + "))";
            String b = "(declare-const b (_ BitVec " + w + "))";
            for (String op : TWO_WORDS) {
                sameWord(checks, "(" + op + " a b)", w, a, b);
                sameWord(checks, "(" + op + " a a)", w, a);
            }
            for (String op : COMPARED) {
                sameAsReference(checks, a, b, "(assert (" + op + " a b))", "(assert (" + op + " a a))", "(assert (" + op + " b a))");
            }
            sameWord(checks, "(bvnot a)", w, a);
            sameWord(checks, "(bvneg a)", w, a);
            sameWord(checks, "(ite (bvult a b) b (bvnot a))", w, a, b);
        }
    }

    private static void partsOfWords(Checks checks) {
        for (int w = 1; w <= 4; w++) {
            String a = "(declare-const a (_ BitVec " + w + "))";
            for (int i = 0; i < w; i++) {
                for (int j = 0; j <= i; j++) {
                    sameWord(checks, "((_ extract " + i + " " + j + ") a)", i - j + 1, a);
                }
            }
            for (int n = 0; n + w <= 4; n++) {
                sameWord(checks, "((_ zero_extend " + n + ") a)", n + w, a);
                sameWord(checks, "((_ sign_extend " + n + ") a)", n + w, a);
            }
            for (int v = 1; v + w <= 4; v++) {
                sameWord(checks, "(concat a b)", v + w, a, "(declare-const b (_ BitVec " + v + "))");
            }
        }
    }

    private static void arrays(Checks checks) {
        for (int w = 1; w <= 2; w++) {
            String m = "(declare-const m (Array (_ BitVec 1) (_ BitVec " + w + ")))";
            String i = "(declare-const i (_ BitVec 1))";
            String e = "(declare-const e (_ BitVec " + w + "))";
            sameWord(checks, "(select m i)", w, m, i);
            sameAsReference(checks, m, i, e, "(assert (= m (store m i e)))", "(assert (= (select (store m i e) i) e))",
                    "(assert (= (select (store m i e) (bvnot i)) e))", "(assert (distinct m (store m (bvnot i) e)))",
                    "(assert (= (ite (= i #b1) m (store m #b0 e)) m))");
        }
        sameAsReference(checks, "(declare-const m (Array (_ BitVec 1) (_ BitVec 4)))",
                "(assert (= m (store m #b1 (select m #b0))))", "(assert (bvslt (select m #b0) (select m #b1)))",
                "(assert (= (store m #b0 #b1010) (store m #b1 #b0101)))");
        for (int w = 1; w <= 4; w++) {
            String m = "(declare-const m (Array (_ BitVec 1) (_ BitVec " + w + ")))";
            String e = "#b1011".substring(0, 2 + w);
            sameWord(checks, "(select m #b0)", w, m);
            sameWord(checks, "(select m #b1)", w, m);
            sameWord(checks, "(select (store m #b0 " + e + ") #b0)", w, m);
            sameWord(checks, "(select (store m #b0 " + e + ") #b1)", w, m);
            sameWord(checks, "(select (store m #b1 " + e + ") #b0)", w, m);
            sameWord(checks, "(select (store m #b1 " + e + ") #b1)", w, m);
            sameAsReference(checks, m, "(assert (= m (store m #b0 (select m #b1))))", "(assert (distinct m m))");
        }
    }
}
