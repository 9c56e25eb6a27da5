import java.util.ArrayList;
import java.util.List;

/**
 * 'Terms', the sentences of each term: which sorts its parts may have, which sort it has itself, how
 * many parts and which numbers there are, and where it is at fault. All sorts are tried at all parts.
 */
public final class SortsTest {
    /** A sort is "B" or "W" or "A" and the width; TEXTS has a term of each. */
    private static final String[] SORTS = {"B", "W1", "W2", "W3", "W4", "A1", "A2", "A3", "A4"};
    private static final String[] TEXTS = {"true", "#b0", "#b00", "#b000", "#b0000", "a", "bb", "ccc", "dddd"};
    private static final String[] LOGIC = {"and", "or", "xor", "=>"};
    private static final String[] ALIKE = {"=", "distinct"};
    private static final String[] WORDS = {"bvand", "bvor", "bvxor", "bvadd", "bvsub", "bvmul", "bvudiv", "bvurem", "bvshl",
        "bvlshr", "bvashr"};
    private static final String[] ORDER = {"bvult", "bvule", "bvslt", "bvsle"};

    private final Checks checks = new Checks();

    public static void main(String[] args) {
        SortsTest test = new SortsTest();
        test.termsOfOnePart();
        test.termsOfTwoParts();
        test.termsOfThreeParts();
        test.extractsOfAllNumbers();
        test.extensionsOfAllNumbers();
        test.lets();
        test.checks.end("SortsTest");
    }

    private static int widthOf(String sort) {
        return sort.length() > 1 ? sort.charAt(1) - '0' : 0;
    }

    private static boolean isWord(String sort) {
        return sort.charAt(0) == 'W';
    }

    private static boolean isArray(String sort) {
        return sort.charAt(0) == 'A';
    }

    private static String textOf(String sort) {
        for (int k = 0; k < SORTS.length; k++) {
            if (SORTS[k].equals(sort)) {
                return TEXTS[k];
            }
        }
        throw new IllegalArgumentException(sort);
    }

    /** An object with the arrays of these sorts, null if they have more than 8 bits together. */
    private TermSolver withArrays(List<String> sorts) {
        List<String> commands = new ArrayList<>();
        int bits = 0;
        for (String sort : SORTS) {
            if (isArray(sort) && sorts.contains(sort)) {
                bits += 2 * widthOf(sort);
                commands.add("(declare-const " + textOf(sort) + " (Array (_ BitVec 1) (_ BitVec " + widthOf(sort) + ")))");
            }
        }
        return bits > 8 ? null : checks.after(commands.toArray(new String[0]));
    }

    private void dueWith(List<String> sorts, String text, int want) {
        TermSolver solver = withArrays(sorts);
        if (solver != null) {
            int terms = solver.terms();
            checks.dueCommand(solver, text, want);
            checks.due("a term is held, or none", solver.terms() > terms, want > 0);
        }
    }

    /**
     * Tries a head with parts of these sorts. wrong is the first part that may not be there, -1 if
     * all may; then the term has the sort own, and may stand only where such a one is asked.
     */
    private void dueTerm(String head, int wrong, String own, String... sorts) {
        StringBuilder text = new StringBuilder("(" + head);
        int fault = 0;
        for (int k = 0; k < sorts.length; k++) {
            text.append(' ');
            fault = k == wrong ? text.length() : fault;
            text.append(textOf(sorts[k]));
        }
        String term = text.append(')').toString();
        List<String> used = List.of(sorts);
        if (wrong >= 0) {
            dueWith(used, "(assert " + term + ")", -1 - 8 - fault);
            return;
        }
        dueWith(used, "(assert " + term + ")", own.equals("B") ? 1 : -1 - 8);
        for (String other : SORTS) {
            List<String> all = new ArrayList<>(used);
            all.add(other);
            String before = "(assert (= " + textOf(other) + " ";
            dueWith(all, before + term + "))", own.equals(other) ? 1 : -1 - before.length());
        }
        tooFewOrMany(head, used);
    }

    private void tooFewOrMany(String head, List<String> sorts) {
        StringBuilder text = new StringBuilder("(assert (" + head);
        for (String sort : sorts) {
            dueWith(sorts, text + "))", -1 - text.length());
            dueWith(sorts, text + " ", -1 - text.length() - 1);
            text.append(' ').append(textOf(sort));
        }
        dueWith(sorts, text + " true))", -1 - text.length() - 1);
        dueWith(sorts, text + "(not true)))", -1 - text.length());
        dueWith(sorts, text.toString(), -1 - text.length());
    }

    private void termsOfOnePart() {
        for (String s : SORTS) {
            dueTerm("not", s.equals("B") ? -1 : 0, "B", s);
            dueTerm("bvnot", isWord(s) ? -1 : 0, s, s);
            dueTerm("bvneg", isWord(s) ? -1 : 0, s, s);
        }
    }

    private void termsOfTwoParts() {
        for (String s : SORTS) {
            for (String t : SORTS) {
                boolean alike = s.equals(t);
                for (String op : LOGIC) {
                    dueTerm(op, !s.equals("B") ? 0 : !t.equals("B") ? 1 : -1, "B", s, t);
                }
                for (String op : ALIKE) {
                    dueTerm(op, alike ? -1 : 1, "B", s, t);
                }
                for (String op : WORDS) {
                    dueTerm(op, !isWord(s) ? 0 : alike ? -1 : 1, s, s, t);
                }
                for (String op : ORDER) {
                    dueTerm(op, !isWord(s) ? 0 : alike ? -1 : 1, "B", s, t);
                }
                int width = widthOf(s) + widthOf(t);
                dueTerm("concat", !isWord(s) ? 0 : !isWord(t) || width > 4 ? 1 : -1, "W" + width, s, t);
                dueTerm("select", !isArray(s) ? 0 : !t.equals("W1") ? 1 : -1, "W" + widthOf(s), s, t);
            }
        }
    }

    private void termsOfThreeParts() {
        for (String s : SORTS) {
            for (String t : SORTS) {
                for (String u : SORTS) {
                    dueTerm("ite", !s.equals("B") ? 0 : u.equals(t) ? -1 : 2, t, s, t, u);
                    boolean fits = u.equals("W" + widthOf(s));
                    dueTerm("store", !isArray(s) ? 0 : !t.equals("W1") ? 1 : fits ? -1 : 2, s, s, t, u);
                }
            }
        }
    }

    private void extractsOfAllNumbers() {
        for (int i = 0; i <= 99; i++) {
            for (int j = 0; j <= 99; j++) {
                String head = "(_ extract " + i + " " + j + ")";
                if (j > i) {
                    dueWith(List.of(), "(assert (= #b0 (" + head + " #b0000)))", -1 - ("(assert (= #b0 ((_ extract " + i + " ").length());
                } else if (i < 4) {
                    for (String s : SORTS) {
                        dueTerm(head, isWord(s) && widthOf(s) > i ? -1 : 0, "W" + (i - j + 1), s);
                    }
                } else {
                    dueTerm(head, 0, "", "W4");
                }
            }
        }
        for (String number : new String[] {"00", "01", "09", "000", "100", "-0", "-1", "a", "#b0", "0a", "_"}) {
            dueWith(List.of(), "(assert (= #b0 ((_ extract " + number + " 0) #b0000)))", -1 - 27);
            dueWith(List.of(), "(assert (= #b0 ((_ extract 3 " + number + ") #b0000)))", -1 - 29);
        }
    }

    private void extensionsOfAllNumbers() {
        for (String op : new String[] {"zero_extend", "sign_extend"}) {
            for (int n = 0; n <= 99; n++) {
                for (String s : SORTS) {
                    int width = widthOf(s) + n;
                    dueTerm("(_ " + op + " " + n + ")", isWord(s) && width <= 4 ? -1 : 0, "W" + width, s);
                }
            }
            for (String number : new String[] {"00", "01", "000", "100", "-1", "a", "#b0", "0a", "_"}) {
                dueWith(List.of(), "(assert (= #b0 ((_ " + op + " " + number + ") #b0)))", -1 - 31);
            }
        }
    }

    /** A let has the sort of what stands in it, whatever the sort of what it names. */
    private void lets() {
        for (String s : SORTS) {
            for (String t : SORTS) {
                String let = "(let ((x " + textOf(s) + ")) " + textOf(t) + ")";
                dueLet(List.of(s, t), "(assert " + let + ")", t.equals("B") ? 1 : -1 - 8);
                dueLet(List.of(s, t), "(assert (not " + let + "))", t.equals("B") ? 1 : -1 - 13);
                String before = "(assert (= " + textOf(t) + " ";
                dueLet(List.of(s, t), before + let + "))", 1);
                dueLet(List.of(s, t), before + "(let ((x " + textOf(s) + ")) x)))", s.equals(t) ? 1 : -1 - before.length());
            }
        }
    }

    private void dueLet(List<String> sorts, String text, int want) {
        TermSolver solver = withArrays(sorts);
        if (solver != null) {
            checks.dueCommand(solver, text, want);
        }
    }
}
