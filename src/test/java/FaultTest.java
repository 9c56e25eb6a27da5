/**
 * Promise 3: where a text is faulty. The place stands in the text of each case: the mark '^' is left
 * out, and what stood behind it is at fault. There are the constants p of truth, v and w, words of
 * 2 and 3 bits, and m, an array of words of 1 bit.
 */
public final class FaultTest {
    private static final String[] COMMANDS = {
        "^", "   ^", "^)", "^x", "^push", "(^", "( ^", "(^)", "(^(push))", "(^pus)", "(^PUSH)", "(^push-)",
        "(^assertpush)", "(push^", "(push ^", "(push^(", "(push ^push)", "(push)^)", "(push) ^(push)", "(pop) ^x",
        "(push ^1)", "(^true)", "(^let)", "(^_)", "(^declare)", "(^#b1)", "^*", "(^*", "(push)^*", "^\"(push)\"",
        "^;(push)", "^~", "^[push]", "(^p)", "(assert^", "(assert ^", "(assert^)", "(assert p^", "(assert p)^)",
        "(assert p ^p)", "(assert p) ^p", "  (  push  )  ^.",
    };
    private static final String[] DECLARATIONS = {
        "(declare-const^", "(declare-const^)", "(declare-const ^(", "(declare-const ^abcde Bool)",
        "(declare-const ^a1 Bool)", "(declare-const ^1 Bool)", "(declare-const ^a-b Bool)", "(declare-const ^_ Bool)",
        "(declare-const ^#b1 Bool)", "(declare-const ^Bool Bool)", "(declare-const ^let Bool)",
        "(declare-const ^true Bool)", "(declare-const ^pop Bool)", "(declare-const ^push Bool)",
        "(declare-const ^not Bool)", "(declare-const ^and Bool)", "(declare-const ^or Bool)",
        "(declare-const ^xor Bool)", "(declare-const ^ite Bool)", "(declare-const ^bvor Bool)",
        "(declare-const ^= Bool)", "(declare-const ^=> Bool)", "(declare-const ^p Bool)", "(declare-const ^w Bool)",
        "(declare-const n^)", "(declare-const n^", "(declare-const n ^n)", "(declare-const n ^bool)",
        "(declare-const n (^Bool))", "(declare-const n ^BitVec)", "(declare-const n ^Array)",
        "(declare-const n (^BitVec 3))", "(declare-const n (_ ^3))", "(declare-const n (_^", "(declare-const n (^))",
        "(declare-const n (_ ^_ 3))", "(declare-const n (_ ^Bool 3))", "(declare-const n (_ BitVec^))",
        "(declare-const n (_ BitVec ^0))", "(declare-const n (_ BitVec ^5))", "(declare-const n (_ BitVec ^03))",
        "(declare-const n (_ BitVec ^10))", "(declare-const n (_ BitVec ^100))", "(declare-const n (_ BitVec ^#b1))",
        "(declare-const n (_ BitVec ^x))", "(declare-const n (_ BitVec 3 ^3))", "(declare-const n (_ BitVec 3)^",
        "(declare-const n (_ BitVec 3) ^Bool)", "(declare-const n Bool ^Bool)", "(declare-const n Bool^",
        "(declare-const n Bool)^)", "(declare-const n (Array ^Bool (_ BitVec 1)))", "(declare-const n (Array^))",
        "(declare-const n (Array (_ BitVec ^2) (_ BitVec 1)))", "(declare-const n (Array (_ BitVec ^0) (_ BitVec 1)))",
        "(declare-const n (Array (_ BitVec 1)^))", "(declare-const n (Array (_ BitVec 1) ^Bool))",
        "(declare-const n (Array (_ BitVec 1) (_ BitVec ^5)))", "(declare-const n (Array (_ BitVec 1) (_ BitVec ^0)))",
        "(declare-const n (Array (_ BitVec 1) (^Array (_ BitVec 1) (_ BitVec 1))))",
        "(declare-const n (Array (^Array (_ BitVec 1) (_ BitVec 1)) (_ BitVec 1)))",
        "(declare-const n (Array (_ BitVec 1) (_ BitVec 1)^", "(declare-const n (Array (_ BitVec 1) (_ BitVec 1) ^1))",
        "(^declare-consta n Bool)", "(declare-const n^* Bool)", "(declare-const n ^. Bool)",
    };
    private static final String[] ATOMS = {
        "^", "^)", "^x", "^bvadd", "^not", "^Bool", "^_", "^push", "^1", "^01", "^tru", "^True", "^truefalse", "^*",
        "p^*", "p ^p", "^-", "^w", "^#b1", "^m", "^#b", "^#", "^#b12", "^#b10101", "^#B1", "^##b1", "^pp", "^P",
        "^abcdefghijklmn", "(not ^abcdefghijklmn)", "true^(", "(= ^b1 #b1)", "(= #b1 ^#b01)", "(= w ^#b0011)",
    };
    private static final String[] HEADS = {
        "(^)", "(^", "(^abcdefghijklmn p)", "(^p)", "(^true)", "(^push)", "(^assert p)", "(^extract 1 0 w)",
        "(^_ extract 1 0)", "(^zero_extend 1 w)", "(^Bool)", "(^BitVec 1)", "(^#b1)", "(^bvadd1 w w)", "(^bvcomp w w)",
        "(^nand p p)", "(^AND p p)", "(^> w w)", "((^not) p)", "((^))", "((^", "((_ ^not) p)", "((^(_ extract 1 0)) w)",
        "(^*)",
    };
    private static final String[] TRUTHS = {
        "(not^)", "(not ^w)", "(not p ^p)", "(not p ^(", "(and p^)", "(and ^w p)", "(and p ^w)", "(and p p ^p)",
        "(or p ^m)", "(or ^m p)", "(xor p ^#b1)", "(=> ^#b1 p)", "(=> p p ^p)", "(and ^(bvadd w w) p)",
        "(and (bvadd w ^p) p)", "(= p ^w)", "(= w ^p)", "(= w ^v)", "(= m ^w)", "(= v ^m)", "(= w w ^w)",
        "(distinct v ^w)", "(distinct w^)", "(ite ^w p p)", "(ite p p ^w)", "(ite p w ^p)", "(ite p w ^v)",
        "(ite p v ^m)", "(ite p p^)", "(ite p p p ^p)", "^(ite p w w)", "^(ite p m m)", "(bvult ^p p)", "(bvult w ^v)",
        "(bvsle w ^m)", "(bvule ^m m)", "(bvslt w w ^w)", "(bvslt w^)",
    };
    private static final String[] WORDS = {
        "^(bvnot w)", "(= (bvnot ^p) w)", "(= (bvneg ^m) w)", "(= (bvneg w ^w) w)", "(= (bvadd w ^v) w)",
        "(= (bvadd ^p p) w)", "(= (bvadd ^m m) w)", "(= (bvmul w ^p) w)", "(= (bvshl w ^v) w)", "(= (bvudiv v ^w) v)",
        "(= (bvand w^) w)", "^(bvadd w w)", "(= (bvnot ^(bvult w w)) w)", "(= (bvnot (bvult w w ^w)) w)",
        "(= (concat ^p w) w)", "(= (concat w ^p) w)", "(= (concat w ^w) w)", "(= (concat w ^v) w)",
        "(= v ^(concat v #b1))", "(= (concat v ^#b111) v)", "(= (concat ^m v) v)", "(= (concat v ^m) v)",
        "^(concat v v)", "(= (concat #b1111 ^#b1) v)", "(= (concat v v ^v) w)", "(= w (concat v #b1) ^w)",
        "(= (select ^w #b0) #b0)", "(= (select ^p #b0) #b0)", "(= (select m ^v) #b0)", "(= (select m ^p) #b0)",
        "(= (select m #b0) ^v)", "^(select m #b0)", "(= (select m #b0 ^v) #b0)", "(= (store ^v #b0 #b0) m)",
        "(= (store m ^v #b0) m)", "(= (store m ^p #b0) m)", "(= (store m #b0 ^w) m)", "(= (store m #b0 ^p) m)",
        "(= (store m #b0 #b0) ^#b00)", "(= (store m #b0^) m)", "^(store m #b0 #b0)", "(= (store m #b0 #b0 ^#b0) m)",
        "(= (store ^p #b0 #b0) m)", "(= (select (store m #b0 #b1) ^m) #b1)",
    };
    private static final String[] NUMBERED = {
        "(= ((^extract 1 0) w) v)", "(= ((_ ^bvadd 1 0) w) v)", "(= ((_ ^BitVec 1) w) v)", "(= ((_ ^1 0) w) v)",
        "(= ((_ extract ^p 0) w) v)", "(= ((_ extract 1 ^2) w) v)", "(= ((_ extract 1^) w) v)",
        "(= ((_ extract 1 0 ^0) w) v)", "(= ((_ extract ^) w) v)", "(= ((_ extract ^01 0) w) v)",
        "(= ((_ extract 1 ^00) w) v)", "(= ((_ extract ^100 0) w) v)", "(= ((_ extract 3 0) ^w) v)",
        "(= ((_ extract 99 0) ^w) v)", "(= ((_ extract 99 99) ^w) v)", "(= ((_ extract 10 ^11) w) v)",
        "(= ((_ extract 1 0) ^p) v)", "(= ((_ extract 1 0) ^m) v)", "(= ((_ extract 1 0) w ^w) v)",
        "(= ((_ extract 2 0) ^v) v)", "(= ((_ extract 1 0) w) ^w)", "(= ((_ extract ^-1 0) w) v)",
        "(= ((_ extract 1 0) (bvnot ^p)) v)", "(= ((_ extract 1 0)^) v)", "^((_ extract 1 0) w)",
        "(= ((_ zero_extend 2) ^w) w)", "(= ((_ zero_extend 1) ^p) v)", "(= ((_ zero_extend 1 ^1) v) w)",
        "(= ((_ zero_extend 3) #b1) ^w)", "(= ((_ zero_extend ^#b1) v) w)", "(= ((_ sign_extend 3) ^v) w)",
        "(= ((_ sign_extend 4) ^v) w)", "(= ((_ sign_extend 99) ^v) w)", "(= ((_ sign_extend 1) ^m) w)",
        "(= ((_ sign_extend ^x) v) w)", "(= ((_ sign_extend 1) v ^v) w)", "^((_ zero_extend 1) v)",
        "(= ((_ sign_extend ^) v) w)", "(= ((_ sign_extend ^00) v) w)",
        "(= ((_ extract 1 0 ^p) w) v)", "(= ((_ extract 1 0 ^w v)", "(= ((_ zero_extend 1 ^v) v) w)", "(= ((_ sign_extend 1 ^p p)",
        "(and ((_ zero_extend 1 ^p p)",
    };
    private static final String[] LETS = {
        "(let^)", "(let ^x p)", "(let (^x p) p)", "(let (^) p)", "(let ((^) p)", "(let ((^let p)) p)",
        "(let ((^not p)) p)", "(let ((^abcde p)) p)", "(let ((^a1 p)) p)", "(let ((^#b1 p)) p)", "(let ((^(x) p)) p)",
        "(let ((x^)) p)", "(let ((x ^x)) p)", "(let ((x ^y)) p)", "(let ((x p ^p)) p)", "(let ((x p) ^(y p)) p)",
        "(let ((x p)) ^", "(let ((x p))^)", "(let ((x p)) x ^x)", "(let ((x p)) ^y)", "(let ((x w)) (not ^x))",
        "^(let ((x p)) w)", "(not ^(let ((x p)) w))", "(and p ^(let ((p w)) p))", "(and (let ((x p)) x) ^x)",
        "(let ((x (let ((y p)) y))) ^y)", "(let ((p w)) (and ^p p))", "(let ((x (and ^w p))) p)",
        "(let ((x p)) (let ((x w)) (not ^x)))", "(let ((x p) ^p)", "(and (let ((p w)) (= p p)) ^w)",
    };
    private static final String[] GOOD = {
        "(= w ((_ extract 2 0) w))", "(= v ((_ extract 2 1) w))", "(= v ((_ zero_extend 0) v))",
        "(= #b0011 ((_ sign_extend 2) v))", "(= ((_ zero_extend 3) #b1) ((_ sign_extend 0) #b0001))",
        "(= (concat v v) (concat #b1 w))", "(= m (store m #b1 #b0))", "(distinct m (ite p m m))", "(= p true)",
        "(let ((p p)) p)", "(let ((x w)) (= x (let ((x v)) (concat x #b1))))", "(let ((w p)) (let ((p w)) p))",
        "(let ((w v)) (= w v))", "(let ((AbCd p)) AbCd)", "(let ((x (let ((x p)) x))) x)", "(=> p p)", "(= #b1 #b0)",
        "(let ((x #b0)) (= (select m x) (bvneg x)))", "(let ((x m)) (= (store x #b0 #b1) m))",
    };

    public static void main(String[] args) {
        Checks checks = new Checks();
        dueAtMarks(checks, "", "", COMMANDS, DECLARATIONS);
        dueAtMarks(checks, "(assert ", ")", ATOMS, HEADS, TRUTHS, WORDS, NUMBERED, LETS);
        arraysOfOtherWords(checks);
        goodTexts(checks);
        levels(checks);
        checks.end("FaultTest");
    }

    private static TermSolver withConstants(Checks checks) {
        return checks.after("(declare-const p Bool)", "(declare-const w (_ BitVec 3))", "(declare-const v (_ BitVec 2))",
                "(declare-const m (Array (_ BitVec 1) (_ BitVec 1)))");
    }

    private static void dueAtMarks(Checks checks, String before, String behind, String[]... groups) {
        for (String[] group : groups) {
            for (String marked : group) {
                dueAtMark(checks, withConstants(checks), before + marked + behind);
            }
        }
    }

    private static void dueAtMark(Checks checks, TermSolver solver, String marked) {
        int place = marked.indexOf('^');
        checks.dueCommand(solver, marked.substring(0, place) + marked.substring(place + 1), -1 - place);
        checks.due("terms() after a fault", solver.terms(), solver.count(0));
        checks.due("nothing typed after a fault", solver.command(), -1);
    }

    private static void arraysOfOtherWords(Checks checks) {
        String[] marked = {"(assert (= m ^n))", "(assert (distinct n ^m))", "(assert (= (store m #b0 ^(select n #b0)) m))",
            "(assert (= (store n #b0 ^(select m #b0)) n))", "(assert (= (ite true n ^m) n))", "(assert (= m ^p))"};
        for (String text : marked) {
            TermSolver solver = checks.after("(declare-const m (Array (_ BitVec 1) (_ BitVec 1)))",
                    "(declare-const n (Array (_ BitVec 1) (_ BitVec 2)))", "(declare-const p (_ BitVec 2))");
            dueAtMark(checks, solver, text);
        }
    }

    private static void goodTexts(Checks checks) {
        for (String term : GOOD) {
            checks.dueCommand(withConstants(checks), "(assert " + term + ")", 1);
        }
        for (String name : new String[] {"a", "Z", "Abcd", "tru", "bool", "as", "con", "Pop", "bv", "lets"}) {
            checks.dueCommand(new TermSolver(), "(declare-const " + name + " Bool)", 1);
        }
        TermSolver solver = checks.after("(declare-const a Bool)", "(declare-const A Bool)");
        checks.dueCommand(solver, "(assert (xor a A))", 1);
        checks.due("names differ by their letters' case", solver.terms(), 3);
    }

    private static void levels(Checks checks) {
        String seven = "(not(not(not(not(not(not(not ";
        TermSolver solver = withConstants(checks);
        checks.dueCommand(solver, "(assert " + seven + "p))))))))", 1);
        dueAtMark(checks, withConstants(checks), "(assert " + seven + "(not ^p)))))))))");
        dueAtMark(checks, withConstants(checks), "(assert " + seven + "(not ^(not p))))))))))");
        dueAtMark(checks, withConstants(checks), "(assert " + seven + "(= ^w w))))))))");
        dueAtMark(checks, withConstants(checks), "(assert " + seven + "(not ^)))))))))");
        dueAtMark(checks, withConstants(checks), "(assert " + seven + "(let ((x ^p)) p))))))))");
        dueAtMark(checks, withConstants(checks), "(assert " + seven + "(not ^");
        String six = "(not(not(not(not(not(not ";
        checks.dueCommand(withConstants(checks), "(assert " + six + "(let ((x p)) x))))))))", 1);
        dueAtMark(checks, withConstants(checks), "(assert " + six + "(= ((_ extract 0 0) ^w) #b1)))))))");
        dueAtMark(checks, withConstants(checks), "(assert " + six + "(let ((x (not ^p))) x))))))))");
        dueAtMark(checks, withConstants(checks), "(assert " + six + "(let ((x p)) (not ^x)))))))))");
        checks.dueCommand(withConstants(checks), "(assert (let((x (not(not(not(not(not(not p))))))))(not(not(not(not x))))))", 1);
    }
}
