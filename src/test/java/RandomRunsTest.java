import java.util.ArrayList;
import java.util.List;
import java.util.Random;

/**
 * All promises: runs of random calls, with good and broken texts, whose answers are compared with
 * those of the Reference. The seeds are fixed, so each run is always the same.
 */
public final class RandomRunsTest {
    private static final int RUNS = 1500;
    private static final int MOST_CALLS = 512;
    private static final String[] NAMES = {"a", "b", "cd", "Efg", "hijk", "x"};
    private static final String[] LOGIC = {"and", "or", "xor", "=>"};
    private static final String[] ORDER = {"bvult", "bvule", "bvslt", "bvsle"};
    private static final String[] WORDS = {"bvand", "bvor", "bvxor", "bvadd", "bvsub", "bvshl", "bvlshr", "bvashr"};
    private static final String[] HEAVY = {"bvmul", "bvudiv", "bvurem"};
    private static final String SPOILERS = "()  #b01239_-=>aBx*.~:";

    private final Random random;
    private final Checks checks;
    private final TermSolver solver = new TermSolver();
    private final Reference reference = new Reference();
    private final StringBuilder log = new StringBuilder();
    private final List<String> letNames = new ArrayList<>();
    private final List<Reference.Sort> letSorts = new ArrayList<>();
    private int calls = 0;
    private boolean different = false;

    private RandomRunsTest(int seed, Checks checks) {
        random = new Random(seed);
        this.checks = checks;
    }

    public static void main(String[] args) {
        Checks checks = new Checks();
        int runs = args.length > 0 ? Integer.parseInt(args[0]) : RUNS;
        boolean same = true;
        for (int seed = 1; seed <= runs && same; seed++) {
            same = new RandomRunsTest(seed, checks).runsAlike(seed);
        }
        checks.end("RandomRunsTest");
    }

    private boolean runsAlike(int seed) {
        while (calls < MOST_CALLS && !different) {
            int kind = random.nextInt(20);
            if (kind < 11) {
                order(spoiled(orderText()));
            } else if (kind < 14) {
                same("check()", solver.check(), reference.check());
            } else if (kind < 15) {
                typeAnything();
            } else {
                ask();
            }
        }
        if (different) {
            System.out.println("in the run of seed " + seed + ":\n" + log);
        }
        return !different;
    }

    private void same(String call, int got, int want) {
        calls++;
        if (calls > MOST_CALLS) {
            return;
        }
        log.append(call).append(" -> ").append(want).append('\n');
        different |= got != want;
        checks.due(call, got, want);
    }

    private void same(String call, boolean got, boolean want) {
        same(call, got ? 1 : 0, want ? 1 : 0);
    }

    private void order(String text) {
        for (int from = 0; from < text.length(); from += 4) {
            int n = Math.min(4, text.length() - from);
            int word = random.nextInt();
            for (int i = from; i < from + n; i++) {
                word = word << 8 | text.charAt(i);
            }
            type(word, n);
        }
        same("command() of " + text, solver.command(), reference.command());
    }

    private void type(int word, int n) {
        same("type(" + word + ", " + n + ")", solver.type(word, n), reference.type(word, n));
    }

    private void typeAnything() {
        type(random.nextInt() >>> random.nextInt(32), random.nextInt(7) - 1);
        type(0x20202020, 1 + random.nextInt(4));
    }

    private void ask() {
        int k = random.nextInt(15) - 1;
        int x = random.nextBoolean() ? random.nextInt(256) : random.nextInt();
        same("holds(" + k + ", " + x + ")", solver.holds(k, x), reference.holds(k, x));
        same("value(" + k + ")", solver.value(k), reference.value(k));
        same("core(" + k + ")", solver.core(k), reference.core(k));
        same("terms()", solver.terms(), reference.terms());
        int which = random.nextInt(6) - 1;
        same("count(" + which + ")", solver.count(which), reference.count(which));
    }

    private String spoiled(String text) {
        if (random.nextInt(6) != 0) {
            return text;
        }
        StringBuilder builder = new StringBuilder(text);
        for (int n = random.nextInt(2); n >= 0 && builder.length() > 0; n--) {
            int at = random.nextInt(builder.length());
            char c = SPOILERS.charAt(random.nextInt(SPOILERS.length()));
            switch (random.nextInt(4)) {
                case 0:
                    builder.setCharAt(at, c);
                    break;
                case 1:
                    builder.insert(at, c);
                    break;
                case 2:
                    builder.deleteCharAt(at);
                    break;
                default:
                    builder.setLength(at);
                    break;
            }
        }
        return builder.toString();
    }

    private String orderText() {
        int kind = random.nextInt(24);
        if (kind < 5) {
            return spaced("(declare-const " + pick(NAMES) + " " + text(anySort()) + ")");
        }
        if (kind < 7) {
            return spaced("(push)");
        }
        if (kind < 9) {
            return spaced("(pop)");
        }
        return spaced("(assert " + term(sort('B', 1), 1 + random.nextInt(3)) + ")");
    }

    private String spaced(String text) {
        if (random.nextInt(8) != 0) {
            return text;
        }
        return " " + text.replace("(", "( ").replace(")", " )") + "  ";
    }

    private static Reference.Sort sort(char kind, int width) {
        return new Reference.Sort(kind, width);
    }

    private Reference.Sort anySort() {
        int kind = random.nextInt(8);
        return kind < 2 ? sort('B', 1) : sort(kind == 2 ? 'A' : 'W', 1 + random.nextInt(4));
    }

    private static String text(Reference.Sort sort) {
        switch (sort.kind()) {
            case 'B':
                return "Bool";
            case 'W':
                return "(_ BitVec " + sort.width() + ")";
            default:
                return "(Array (_ BitVec 1) (_ BitVec " + sort.width() + "))";
        }
    }

    private String pick(String[] from) {
        return from[random.nextInt(from.length)];
    }

    /** A term that is nearly always of the sort, and of a wrong one now and then. */
    private String term(Reference.Sort sort, int depth) {
        Reference.Sort given = random.nextInt(60) == 0 ? anySort() : sort;
        if (depth > 0 && random.nextInt(12) == 0) {
            return let(given, depth - 1);
        }
        if (depth > 0 && random.nextInt(12) == 0) {
            return "(ite " + term(sort('B', 1), depth - 1) + " " + term(given, depth - 1) + " " + term(given, depth - 1) + ")";
        }
        if (depth <= 0) {
            return atom(given);
        }
        switch (given.kind()) {
            case 'B':
                return truth(depth - 1);
            case 'W':
                return word(given.width(), depth - 1);
            default:
                return "(store " + term(given, depth - 1) + " " + term(sort('W', 1), depth - 1) + " "
                        + term(sort('W', given.width()), depth - 1) + ")";
        }
    }

    private String let(Reference.Sort sort, int depth) {
        Reference.Sort given = anySort();
        String name = pick(NAMES);
        String value = term(given, depth);
        letNames.add(name);
        letSorts.add(given);
        String body = term(sort, depth);
        letNames.remove(letNames.size() - 1);
        letSorts.remove(letSorts.size() - 1);
        return "(let ((" + name + " " + value + ")) " + body + ")";
    }

    private String atom(Reference.Sort sort) {
        List<String> fitting = new ArrayList<>();
        for (int k = 0; k < letNames.size(); k++) {
            if (letSorts.get(k).equals(sort)) {
                fitting.add(letNames.get(k));
            }
        }
        for (Reference.Constant c : reference.constants) {
            if (c.node().sort().equals(sort)) {
                fitting.add(c.name());
            }
        }
        if (!fitting.isEmpty() && random.nextInt(5) != 0) {
            return fitting.get(random.nextInt(fitting.size()));
        }
        if (sort.kind() == 'B') {
            return random.nextBoolean() ? "true" : "false";
        }
        if (sort.kind() == 'A' || random.nextInt(30) == 0) {
            return pick(NAMES);
        }
        return bits(sort.width());
    }

    private String bits(int width) {
        StringBuilder builder = new StringBuilder("#b");
        for (int i = 0; i < width; i++) {
            builder.append(random.nextInt(2));
        }
        return builder.toString();
    }

    /** The sort of a constant that is there, so that comparisons are not all between numbers. */
    private Reference.Sort usedSort() {
        List<Reference.Constant> there = reference.constants;
        return there.isEmpty() ? anySort() : there.get(random.nextInt(there.size())).node().sort();
    }

    private String truth(int depth) {
        switch (random.nextInt(8)) {
            case 0:
                return "(not " + term(sort('B', 1), depth) + ")";
            case 1:
            case 2:
                return two(pick(LOGIC), sort('B', 1), depth);
            case 3:
            case 4:
            case 5:
                return two(random.nextBoolean() ? "=" : "distinct", usedSort(), depth);
            default:
                return two(pick(ORDER), sort('W', usedSort().width()), depth);
        }
    }

    private String two(String op, Reference.Sort sort, int depth) {
        return "(" + op + " " + term(sort, depth) + " " + term(sort, depth) + ")";
    }

    private String word(int width, int depth) {
        switch (random.nextInt(10)) {
            case 0:
                return "(" + (random.nextBoolean() ? "bvnot " : "bvneg ") + term(sort('W', width), depth) + ")";
            case 1:
                return two(pick(HEAVY), sort('W', width), depth);
            case 2:
                return "(select " + term(sort('A', width), depth) + " " + term(sort('W', 1), depth) + ")";
            case 3:
                return joined(width, depth);
            case 4:
                int above = random.nextInt(6 - width);
                int j = random.nextInt(above + 1);
                return "((_ extract " + (j + width - 1) + " " + j + ") " + term(sort('W', Math.min(4, width + above)), depth) + ")";
            case 5:
                int more = random.nextInt(width + 1);
                return "((_ " + (random.nextBoolean() ? "zero" : "sign") + "_extend " + more + ") "
                        + term(sort('W', Math.max(1, width - more)), depth) + ")";
            default:
                return two(pick(WORDS), sort('W', width), depth);
        }
    }

    private String joined(int width, int depth) {
        int low = 1 + random.nextInt(4);
        return "(concat " + term(sort('W', Math.max(1, width - low)), depth) + " " + term(sort('W', low), depth) + ")";
    }
}
