import java.util.Random;

/**
 * Promises 4, 5 and 6 where much must be tried: eight bits under many nested assertions, compared
 * with the Reference. The seeds are fixed, so the objects are always the same.
 */
public final class SearchTest {
    private static final int OBJECTS = 4000;
    private static final String[] TWO = {"and", "or", "or", "xor", "=>", "=", "distinct"};
    private static final String[] BITS = {"bvand", "bvor", "bvxor", "bvadd", "bvsub", "bvshl", "bvlshr"};

    private final Random random;
    private final Checks checks;
    private final TermSolver solver = new TermSolver();
    private final Reference reference = new Reference();

    private SearchTest(int seed, Checks checks) {
        random = new Random(seed);
        this.checks = checks;
    }

    public static void main(String[] args) {
        Checks checks = new Checks();
        int objects = args.length > 0 ? Integer.parseInt(args[0]) : OBJECTS;
        for (int seed = 1; seed <= objects; seed++) {
            SearchTest test = new SearchTest(seed, checks);
            if (seed % 3 == 0) {
                test.wordsTogether();
            } else {
                test.truthsTogether();
            }
        }
        checks.end("SearchTest");
    }

    private void order(String text) {
        for (char c : text.toCharArray()) {
            reference.type(c, 1);
        }
        checks.dueCommand(solver, text, reference.command());
    }

    private void sameAnswers() {
        checks.due("check()", solver.check(), reference.check());
        for (int k = 0; k < reference.count(0); k++) {
            checks.due("value(" + k + ")", solver.value(k), reference.value(k));
        }
        for (int k = 0; k < reference.count(1); k++) {
            checks.due("core(" + k + ")", solver.core(k), reference.core(k));
        }
    }

    private void truthsTogether() {
        for (char name = 'a'; name <= 'h'; name++) {
            order("(declare-const " + name + " Bool)");
        }
        for (int k = 0; k < 12 && reference.terms() < 58; k++) {
            order("(assert " + truth(1 + random.nextInt(2)) + ")");
            if (k > 1 && k % 3 == 0) {
                sameAnswers();
            }
        }
        sameAnswers();
    }

    private String truth(int depth) {
        if (depth == 0) {
            char name = (char) ('a' + random.nextInt(8));
            return random.nextInt(3) == 0 ? "(not " + name + ")" : "" + name;
        }
        if (random.nextInt(8) == 0) {
            return "(ite " + truth(0) + " " + truth(depth - 1) + " " + truth(depth - 1) + ")";
        }
        return "(" + TWO[random.nextInt(TWO.length)] + " " + truth(depth - 1) + " " + truth(depth - 1) + ")";
    }

    private void wordsTogether() {
        order("(declare-const a (_ BitVec 4))");
        order("(declare-const b (_ BitVec 2))");
        order("(declare-const c (_ BitVec 2))");
        for (int k = 0; k < 10 && reference.terms() < 55; k++) {
            String op = random.nextInt(3) == 0 ? "distinct" : random.nextBoolean() ? "bvule" : "bvslt";
            order("(assert (" + op + " " + word(2) + " " + word(1) + "))");
            if (k % 3 == 2) {
                sameAnswers();
            }
        }
        sameAnswers();
    }

    private String word(int depth) {
        if (depth == 0) {
            return random.nextBoolean() ? "a" : "(concat " + (random.nextBoolean() ? "b c)" : "c b)");
        }
        String op = random.nextInt(20) == 0 ? "bvmul" : BITS[random.nextInt(BITS.length)];
        return "(" + op + " " + word(depth - 1) + " " + word(0) + ")";
    }
}
