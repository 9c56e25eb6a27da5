/**
 * 'Terms', the sentences of texts, symbols, numbers and names: what each character may be, how long a
 * symbol, a number and a name may be, and which of them no name may be.
 */
public final class CharactersTest {
    private static final String OF_SYMBOLS = "abcdefghijklmnopqrstuvwxyzABCDEFGHIJKLMNOPQRSTUVWXYZ0123456789-_=>#";
    private static final String[] LANGUAGE = {"Bool", "BitVec", "Array", "_", "declare-const", "assert", "push", "pop",
        "true", "false", "let", "not", "and", "or", "xor", "=>", "=", "distinct", "ite", "bvnot", "bvneg", "bvand", "bvor",
        "bvxor", "bvadd", "bvsub", "bvmul", "bvudiv", "bvurem", "bvshl", "bvlshr", "bvashr", "bvult", "bvule", "bvslt",
        "bvsle", "concat", "extract", "zero_extend", "sign_extend", "select", "store"};

    private static final String OPERATORS = " not and or xor => = distinct ite bvnot bvneg bvand bvor bvxor bvadd bvsub bvmul bvudiv"
            + " bvurem bvshl bvlshr bvashr bvult bvule bvslt bvsle concat select store ";

    public static void main(String[] args) {
        Checks checks = new Checks();
        eachCharacterBehindASymbol(checks);
        eachCharacterBeforeASymbol(checks);
        eachCharacterRoundACommand(checks);
        eachCharacterInAName(checks);
        symbolsOfEachLength(checks);
        namesOfEachLength(checks);
        noNameIsAWordOfTheLanguage(checks);
        widthsAreOneToFour(checks);
        wordsOfEachLength(checks);
        spacesOfEachNumber(checks);
        checks.end("CharactersTest");
    }

    private static boolean isOfSymbols(char c) {
        return OF_SYMBOLS.indexOf(c) >= 0;
    }

    private static TermSolver withP(Checks checks) {
        return checks.after("(declare-const p Bool)");
    }

    /** One more character of the symbol makes it another one; all others begin something new. */
    private static void eachCharacterBehindASymbol(Checks checks) {
        for (char c = 32; c <= 126; c++) {
            int want = c == ' ' ? 1 : isOfSymbols(c) ? -1 - 8 : c == ')' ? -1 - 10 : -1 - 9;
            checks.dueCommand(withP(checks), "(assert p" + c + ")", want);
            checks.dueCommand(withP(checks), "(push" + c + ")", c == ' ' ? 1 : isOfSymbols(c) ? -1 - 1 : c == ')' ? -1 - 6 : -1 - 5);
        }
    }

    private static void eachCharacterBeforeASymbol(Checks checks) {
        for (char c = 32; c <= 126; c++) {
            checks.dueCommand(withP(checks), "(assert " + c + "p)", c == ' ' ? 1 : c == '(' ? -1 - 9 : -1 - 8);
            checks.dueCommand(withP(checks), "(" + c + "assert p)", c == ' ' ? 1 : -1 - 1);
        }
    }

    private static void eachCharacterRoundACommand(Checks checks) {
        for (char c = 32; c <= 126; c++) {
            checks.dueCommand(new TermSolver(), c + "(push)", c == ' ' ? 1 : c == '(' ? -1 - 1 : -1);
            checks.dueCommand(new TermSolver(), "(push)" + c, c == ' ' ? 1 : -1 - 6);
        }
    }

    private static void eachCharacterInAName(Checks checks) {
        for (char c = 32; c <= 126; c++) {
            boolean letter = c >= 'a' && c <= 'z' || c >= 'A' && c <= 'Z';
            int alone = letter ? 1 : c == ' ' ? -1 - 17 : -1 - 15;
            checks.dueCommand(new TermSolver(), "(declare-const " + c + " (_ BitVec 2))", alone);
            int second = letter || c == ' ' ? 1 : isOfSymbols(c) ? -1 - 15 : c == '(' ? -1 - 18 : -1 - 16;
            checks.dueCommand(new TermSolver(), "(declare-const q" + c + " (_ BitVec 2))", second);
            checks.dueCommand(new TermSolver(), "(assert (let ((x" + c + " true)) true))", second);
        }
    }

    private static void symbolsOfEachLength(Checks checks) {
        StringBuilder symbol = new StringBuilder();
        for (int size = 1; size <= 100; size++) {
            symbol.append(OF_SYMBOLS.charAt(size * 7 % OF_SYMBOLS.length()));
            checks.dueCommand(withP(checks), "(assert " + symbol + ")", -1 - 8);
            checks.dueCommand(withP(checks), "(assert p " + symbol + ")", -1 - 10);
            checks.dueCommand(withP(checks), "  (" + symbol + " p)", -1 - 3);
        }
        checks.dueCommand(new TermSolver(), "(declare-constn Bool)", -1 - 1);
        checks.dueCommand(new TermSolver(), "(declare-const- n Bool)", -1 - 1);
        checks.dueCommand(new TermSolver(), "(declare-cons n Bool)", -1 - 1);
        checks.dueCommand(new TermSolver(), "(declare-constdeclare-const n Bool)", -1 - 1);
        checks.dueCommand(withP(checks), "(assert truetruetrue1true)", -1 - 8);
        checks.dueCommand(withP(checks), "(assert (not pppppppppppppp))", -1 - 13);
    }

    private static void namesOfEachLength(Checks checks) {
        String[] good = {"a", "z", "A", "Z", "ab", "Xyz", "abcd", "ZZZZ"};
        for (String name : good) {
            checks.dueCommand(new TermSolver(), "(declare-const " + name + " Bool)", 1);
            checks.dueCommand(withP(checks), "(assert (let ((" + name + " p)) " + name + "))", 1);
        }
        String name = "abcd";
        for (int size = 5; size <= 20; size++) {
            name += "e";
            checks.dueCommand(new TermSolver(), "(declare-const " + name + " Bool)", -1 - 15);
            checks.dueCommand(withP(checks), "(assert (let ((" + name + " p)) p))", -1 - 15);
        }
        TermSolver solver = checks.after("(declare-const abc Bool)", "(declare-const abcd Bool)", "(declare-const ab Bool)");
        checks.dueCommand(solver, "(assert (and ab (not abcd)))", 1);
        checks.dueCommand(solver, "(assert a)", -1 - 8);
        checks.dueCommand(solver, "(assert abcde)", -1 - 8);
        checks.due("holds of ab and not abcd", solver.holds(0, 4), 1);
        checks.due("holds of abc alone", solver.holds(0, 1), 0);
    }

    private static void noNameIsAWordOfTheLanguage(Checks checks) {
        for (String word : LANGUAGE) {
            checks.dueCommand(new TermSolver(), "(declare-const " + word + " Bool)", -1 - 15);
            checks.dueCommand(withP(checks), "(assert (let ((" + word + " p)) p))", -1 - 15);
            if (!word.equals("true") && !word.equals("false")) {
                checks.dueCommand(withP(checks), "(assert " + word + ")", -1 - 8);
            }
            if (word.equals("let")) {
                checks.dueCommand(withP(checks), "(assert (let p))", -1 - 13);
            } else if (!OPERATORS.contains(" " + word + " ")) {
                checks.dueCommand(withP(checks), "(assert (" + word + " p))", -1 - 9);
            }
        }
        // Words that only begin, end or name parts in the document are names as all others.
        String[] free = {"N", "S", "T", "s", "t", "u", "i", "j", "n", "w", "b", "bv", "mod", "true".substring(0, 3), "bool",
            "TRUE", "Not", "AND", "iff", "nor", "nand", "imp", "eq", "add", "mul", "set", "get", "Arr", "Bit", "Vec", "Int"};
        for (String name : free) {
            checks.dueCommand(new TermSolver(), "(declare-const " + name + " Bool)", 1);
        }
    }

    private static void widthsAreOneToFour(Checks checks) {
        for (int number = 0; number <= 120; number++) {
            boolean good = number >= 1 && number <= 4;
            dueWidth(checks, "" + number, good, number == 1);
            dueWidth(checks, "0" + number, false, false);
            dueWidth(checks, "00" + number, false, false);
        }
        for (String other : new String[] {"1a", "a", "#b1", "-1", "1-", "_", "1_", "Bool", "=", "x1"}) {
            dueWidth(checks, other, false, false);
        }
    }

    private static void dueWidth(Checks checks, String width, boolean ofWords, boolean ofIndex) {
        checks.dueCommand(new TermSolver(), "(declare-const a (_ BitVec " + width + "))", ofWords ? 1 : -1 - 27);
        checks.dueCommand(new TermSolver(), "(declare-const a (Array (_ BitVec " + width + ") (_ BitVec 1)))", ofIndex ? 1 : -1 - 34);
        checks.dueCommand(new TermSolver(), "(declare-const a (Array (_ BitVec 1) (_ BitVec " + width + ")))", ofWords ? 1 : -1 - 47);
    }

    private static void wordsOfEachLength(Checks checks) {
        StringBuilder digits = new StringBuilder("#b");
        checks.dueCommand(new TermSolver(), "(assert (= #b #b))", -1 - 11);
        for (int width = 1; width <= 20; width++) {
            digits.append(width % 2);
            String text = "(assert (= " + digits + " " + digits + "))";
            checks.dueCommand(new TermSolver(), text, width <= 4 ? 1 : -1 - 11);
        }
        for (char c = '2'; c <= '9'; c++) {
            checks.dueCommand(new TermSolver(), "(assert (= #b" + c + " #b0))", -1 - 11);
            checks.dueCommand(new TermSolver(), "(assert (= #b001" + c + " #b0))", -1 - 11);
        }
        for (String other : new String[] {"#", "#0", "#1", "b1", "b0", "#B1", "#b1a", "#ba", "#b-1", "##b1", "#b#b1", "0", "1",
            "10", "#x1", "-#b1", "#b1#"}) {
            checks.dueCommand(new TermSolver(), "(assert (= " + other + " #b0))", -1 - 11);
        }
    }

    /** The longest text is filled with spaces at each place where they may stand. */
    private static void spacesOfEachNumber(Checks checks) {
        String[] tokens = {"(", "assert", "(", "=", "(", "(", "_", "extract", "0", "0", ")", "#b1", ")", "#b1", ")", ")"};
        for (int wide = 0; wide <= tokens.length; wide++) {
            StringBuilder text = new StringBuilder();
            for (int k = 0; k <= tokens.length; k++) {
                text.append(k == wide ? " ".repeat(72) : " ");
                text.append(k < tokens.length ? tokens[k] : "");
            }
            checks.due("characters", text.length(), 119);
            checks.dueCommand(new TermSolver(), text.toString(), 1);
        }
        for (int before = 0; before + 6 <= 120; before++) {
            String text = " ".repeat(before) + "(push)" + " ".repeat(114 - before);
            checks.dueCommand(new TermSolver(), text, 1);
        }
        for (int n = 0; n <= 120; n++) {
            checks.dueCommand(new TermSolver(), " ".repeat(n), -1 - n);
            String cut = "(push" + " ".repeat(n);
            checks.dueCommand(new TermSolver(), cut.substring(0, Math.min(cut.length(), 120)), -1 - Math.min(n + 5, 120));
        }
    }
}
