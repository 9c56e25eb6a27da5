import java.util.ArrayList;
import java.util.Arrays;
import java.util.List;

/**
 * 'Terms', where a text is faulty: good texts with each bracket or symbol left out, doubled, or
 * exchanged with, or followed by, each other one, and cut behind each. The Reference says what is due.
 */
public final class TokensTest {
    private static final String[] DECLARED = {"( declare-const p Bool )", "( declare-const w ( _ BitVec 3 ) )",
        "( declare-const v ( _ BitVec 1 ) )", "( declare-const m ( Array ( _ BitVec 1 ) ( _ BitVec 1 ) ) )"};
    private static final String[] GOOD = {"( push )", "( pop )", "( declare-const n Bool )", "( declare-const n ( _ BitVec 1 ) )",
        "( declare-const n ( Array ( _ BitVec 1 ) ( _ BitVec 1 ) ) )", "( assert p )", "( assert ( not p ) )",
        "( assert ( and p ( or p p ) ) )", "( assert ( => ( xor p p ) p ) )", "( assert ( ite p ( = w w ) p ) )",
        "( assert ( distinct m ( store m v #b1 ) ) )", "( assert ( = v ( select m v ) ) )", "( assert ( bvult w ( bvadd w #b001 ) ) )",
        "( assert ( bvsle ( bvneg w ) ( bvudiv w w ) ) )", "( assert ( = ( concat v v ) ( ( _ extract 2 1 ) w ) ) )",
        "( assert ( = w ( ( _ zero_extend 2 ) v ) ) )", "( assert ( = ( ( _ sign_extend 1 ) w ) ( concat w v ) ) )",
        "( assert ( let ( ( x w ) ) ( = x w ) ) )", "( assert ( let ( ( p v ) ) ( = p ( let ( ( v p ) ) v ) ) ) )",
        "( assert ( = ( ite p w #b010 ) ( bvshl w w ) ) )"};
    private static final String[] OTHERS = {"(", ")", "p", "w", "v", "m", "x", "n", "0", "1", "2", "3", "4", "5", "12", "00", "01",
        "100", "#b0", "#b00", "#b001", "#b1111", "#b11111", "#b", "true", "false", "_", "Bool", "BitVec", "Array", "let", "not",
        "and", "=", "=>", "ite", "bvadd", "bvmul", "concat", "extract", "zero_extend", "select", "store", "assert", "push",
        "declare-const", "abcd", "abcde", "abcdefghijklm", "abcdefghijklmn", "*", ".", "p*", "p#", "(p"};

    private final Checks checks = new Checks();
    private final List<String> before = List.of(DECLARED);

    public static void main(String[] args) {
        TokensTest test = new TokensTest();
        for (String text : GOOD) {
            test.changed(Arrays.asList(text.split(" ")));
        }
        test.checks.end("TokensTest");
    }

    private void changed(List<String> tokens) {
        dueAlike(tokens);
        for (int k = 0; k <= tokens.size(); k++) {
            dueAlike(tokens.subList(0, k));
            if (k < tokens.size()) {
                dueAlike(with(tokens, k, 1));
                dueAlike(with(tokens, k, 0, tokens.get(k)));
            }
            for (String other : OTHERS) {
                dueAlike(with(tokens, k, 0, other));
                if (k < tokens.size()) {
                    dueAlike(with(tokens, k, 1, other));
                }
            }
        }
    }

    /** The tokens with some at a place taken out, and others put there. */
    private static List<String> with(List<String> tokens, int at, int out, String... in) {
        List<String> changed = new ArrayList<>(tokens.subList(0, at));
        changed.addAll(Arrays.asList(in));
        changed.addAll(tokens.subList(at + out, tokens.size()));
        return changed;
    }

    private void dueAlike(List<String> tokens) {
        String text = String.join(" ", tokens);
        Reference reference = new Reference();
        TermSolver solver = new TermSolver();
        for (String declared : before) {
            order(reference, declared);
            Checks.command(solver, declared);
        }
        checks.dueCommand(solver, text, order(reference, text));
        checks.due("terms() after " + text, solver.terms(), reference.terms());
        checks.due("assertions after " + text, solver.count(1), reference.count(1));
    }

    private static int order(Reference reference, String text) {
        for (char c : text.toCharArray()) {
            reference.type(c, 1);
        }
        return reference.command();
    }
}
