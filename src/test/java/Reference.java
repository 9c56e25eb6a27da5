import java.util.ArrayDeque;
import java.util.ArrayList;
import java.util.Deque;
import java.util.HashSet;
import java.util.List;
import java.util.Set;

/**
 * The document's promises said once more in the plainest way: terms are compared by their texts,
 * and whether assertions can hold is found by going through all values.
 */
final class Reference {
    private static final String LANGUAGE = " Bool BitVec Array _ declare-const assert push pop true false let not and or"
            + " xor => = distinct ite bvnot bvneg bvand bvor bvxor bvadd bvsub bvmul bvudiv bvurem bvshl bvlshr bvashr"
            + " bvult bvule bvslt bvsle concat extract zero_extend sign_extend select store ";

    /** A sort: 'B' with the width 1, 'W' with a word's width, 'A' with the width of an array's words. */
    record Sort(char kind, int width) {
        int bits() {
            return kind == 'A' ? 2 * width : width;
        }
    }

    static final Sort BOOL = new Sort('B', 1);

    record Node(String op, List<Node> parts, int i, int j, Sort sort, String key) {
    }

    record Constant(String name, Node node, int offset) {
    }

    private record Binding(String name, Node node) {
    }

    private static final class Fault extends Exception {
        private static final long serialVersionUID = 1L;
        final int position;

        Fault(int position) {
            this.position = position;
        }
    }

    private final StringBuilder typed = new StringBuilder();
    final List<Constant> constants = new ArrayList<>();
    final List<Node> assertions = new ArrayList<>();
    private final Deque<int[]> scopes = new ArrayDeque<>();
    private Set<String> held = new HashSet<>();
    private int declared = 0;
    private Integer model = null;
    private Set<Integer> core = null;

    // While a command is read:
    private String text;
    private int at;
    private Set<String> made;
    private List<Binding> lets;

    boolean type(int word, int n) {
        if (n < 1 || n > 4 || typed.length() + n > 120) {
            return false;
        }
        StringBuilder more = new StringBuilder();
        for (int k = n - 1; k >= 0; k--) {
            int c = (word >>> (8 * k)) & 0xff;
            if (c < 32 || c > 126) {
                return false;
            }
            more.append((char) c);
        }
        typed.append(more);
        return true;
    }

    int command() {
        text = typed.toString();
        typed.setLength(0);
        at = 0;
        made = new HashSet<>(held);
        lets = new ArrayList<>();
        try {
            int answer = read();
            if (answer >= 0) {
                model = null;
                core = null;
            }
            return answer;
        } catch (Fault fault) {
            return -1 - fault.position;
        }
    }

    private int read() throws Fault {
        expect("(");
        int start = peek();
        String order = next();
        switch (order) {
            case "declare-const": {
                int nameAt = peek();
                String name = next();
                if (!isName(name) || constant(name) != null) {
                    throw new Fault(nameAt);
                }
                Sort sort = readSort();
                finish();
                return declare(name, sort);
            }
            case "assert": {
                int termAt = peek();
                Node term = readTerm(1);
                if (!term.sort().equals(BOOL)) {
                    throw new Fault(termAt);
                }
                finish();
                return claim(term);
            }
            case "push":
                finish();
                if (scopes.size() == 4) {
                    return -1000;
                }
                scopes.push(new int[] {constants.size(), assertions.size()});
                return scopes.size();
            case "pop":
                finish();
                if (scopes.isEmpty()) {
                    return -1000;
                }
                int[] mark = scopes.pop();
                constants.subList(mark[0], constants.size()).clear();
                assertions.subList(mark[1], assertions.size()).clear();
                return scopes.size();
            default:
                throw new Fault(start);
        }
    }

    private int bits() {
        int bits = 0;
        for (Constant c : constants) {
            bits += c.node().sort().bits();
        }
        return bits;
    }

    private int declare(String name, Sort sort) {
        if (bits() + sort.bits() > 8) {
            return -1000;
        }
        if (held.size() + 1 > 60) {
            return -1001;
        }
        declared++;
        Node node = new Node("constant", List.of(), bits(), 0, sort, "constant" + declared);
        held.add(node.key());
        constants.add(new Constant(name, node, bits()));
        return constants.size();
    }

    private int claim(Node term) {
        if (assertions.size() == 12) {
            return -1000;
        }
        int heavy = 0;
        for (String key : made) {
            if (key.startsWith("(bvmul ") || key.startsWith("(bvudiv ") || key.startsWith("(bvurem ")) {
                heavy++;
            }
        }
        if (made.size() > 60 || heavy > 2) {
            return -1001;
        }
        held = made;
        assertions.add(term);
        return assertions.size();
    }

    private static boolean isName(String symbol) {
        return symbol.matches("[a-zA-Z]{1,4}") && !LANGUAGE.contains(" " + symbol + " ");
    }

    private Constant constant(String name) {
        for (Constant c : constants) {
            if (c.name().equals(name)) {
                return c;
            }
        }
        return null;
    }

    private int peek() {
        while (at < text.length() && text.charAt(at) == ' ') {
            at++;
        }
        return at;
    }

    private String next() {
        int start = peek();
        if (start == text.length()) {
            return "";
        }
        at++;
        if (isOfSymbol(text.charAt(start))) {
            while (at < text.length() && isOfSymbol(text.charAt(at))) {
                at++;
            }
        }
        return text.substring(start, at);
    }

    private static boolean isOfSymbol(char c) {
        return "abcdefghijklmnopqrstuvwxyzABCDEFGHIJKLMNOPQRSTUVWXYZ0123456789-_=>#".indexOf(c) >= 0;
    }

    private String ahead() {
        int before = at;
        String symbol = next();
        at = before;
        return symbol;
    }

    private void expect(String symbol) throws Fault {
        int start = peek();
        if (!next().equals(symbol)) {
            throw new Fault(start);
        }
    }

    private void finish() throws Fault {
        expect(")");
        expect("");
    }

    private int number(int least, int most) throws Fault {
        int start = peek();
        String symbol = next();
        if (!symbol.matches("0|[1-9][0-9]?") || Integer.parseInt(symbol) < least || Integer.parseInt(symbol) > most) {
            throw new Fault(start);
        }
        return Integer.parseInt(symbol);
    }

    private Sort readSort() throws Fault {
        if (ahead().equals("Bool")) {
            next();
            return BOOL;
        }
        expect("(");
        if (!ahead().equals("Array")) {
            return new Sort('W', readWidth(4));
        }
        next();
        expect("(");
        readWidth(1);
        expect("(");
        int width = readWidth(4);
        expect(")");
        return new Sort('A', width);
    }

    private int readWidth(int most) throws Fault {
        expect("_");
        expect("BitVec");
        int width = number(1, most);
        expect(")");
        return width;
    }

    private Node node(String op, List<Node> parts, int i, int j, Sort sort) {
        StringBuilder key = new StringBuilder("(" + op + " " + i + " " + j);
        for (Node part : parts) {
            key.append(' ').append(part.key());
        }
        // The width tells #b0 from #b00; for all others it follows from the rest.
        key.append(' ').append(sort.kind()).append(sort.width()).append(')');
        made.add(key.toString());
        return new Node(op, parts, i, j, sort, key.toString());
    }

    private Node readTerm(int level) throws Fault {
        int start = peek();
        if (level == 9) {
            throw new Fault(start);
        }
        String symbol = next();
        if (symbol.equals("true") || symbol.equals("false")) {
            return node(symbol, List.of(), 0, 0, BOOL);
        }
        if (symbol.matches("#b[01]{1,4}")) {
            String digits = symbol.substring(2);
            return node("word", List.of(), Integer.parseInt(digits, 2), 0, new Sort('W', digits.length()));
        }
        if (isName(symbol)) {
            for (int k = lets.size() - 1; k >= 0; k--) {
                if (lets.get(k).name().equals(symbol)) {
                    return lets.get(k).node();
                }
            }
            if (constant(symbol) != null) {
                return constant(symbol).node();
            }
        }
        if (!symbol.equals("(")) {
            throw new Fault(start);
        }
        if (ahead().equals("let")) {
            return readLet(level);
        }
        return readBracketed(level);
    }

    private Node readLet(int level) throws Fault {
        expect("let");
        expect("(");
        expect("(");
        int nameAt = peek();
        String name = next();
        if (!isName(name)) {
            throw new Fault(nameAt);
        }
        Node given = readTerm(level + 1);
        expect(")");
        expect(")");
        lets.add(new Binding(name, given));
        Node body = readTerm(level + 1);
        lets.remove(lets.size() - 1);
        expect(")");
        return body;
    }

    private Node readBracketed(int level) throws Fault {
        int i = 0;
        int j = 0;
        boolean numbered = ahead().equals("(");
        if (numbered) {
            next();
            expect("_");
        }
        int opAt = peek();
        String op = next();
        if (numbered != (op.equals("extract") || op.endsWith("_extend")) || partsOf(op) == 0) {
            throw new Fault(opAt);
        }
        if (numbered) {
            i = number(0, 99);
            if (op.equals("extract")) {
                j = number(0, i);
            }
            expect(")");
        }
        List<Node> parts = new ArrayList<>();
        for (int k = 0; k < partsOf(op); k++) {
            int partAt = peek();
            parts.add(readTerm(level + 1));
            if (!isAsSaid(op, i, parts)) {
                throw new Fault(partAt);
            }
        }
        expect(")");
        return node(op, parts, i, j, sortOf(op, i, j, parts));
    }

    private static int partsOf(String op) {
        switch (op) {
            case "not": case "bvnot": case "bvneg": case "extract": case "zero_extend": case "sign_extend":
                return 1;
            case "and": case "or": case "xor": case "=>": case "=": case "distinct": case "concat": case "select":
                return 2;
            case "ite": case "store":
                return 3;
            default:
                return op.startsWith("bv") && LANGUAGE.contains(" " + op + " ") ? 2 : 0;
        }
    }

    /** Whether the last of the parts may stand behind those before it. */
    private static boolean isAsSaid(String op, int i, List<Node> parts) {
        int k = parts.size() - 1;
        Sort sort = parts.get(k).sort();
        Sort first = parts.get(0).sort();
        switch (op) {
            case "not": case "and": case "or": case "xor": case "=>":
                return sort.equals(BOOL);
            case "=": case "distinct":
                return sort.equals(first);
            case "ite":
                return k == 0 ? sort.equals(BOOL) : k == 1 || sort.equals(parts.get(1).sort());
            case "concat":
                return sort.kind() == 'W' && (k == 0 || sort.width() + first.width() <= 4);
            case "extract":
                return sort.kind() == 'W' && sort.width() > i;
            case "zero_extend": case "sign_extend":
                return sort.kind() == 'W' && sort.width() <= 4 - i;
            case "select": case "store":
                return k == 0 ? sort.kind() == 'A'
                        : k == 1 ? sort.equals(new Sort('W', 1)) : sort.equals(new Sort('W', first.width()));
            default:
                return sort.kind() == 'W' && sort.equals(first);
        }
    }

    private static Sort sortOf(String op, int i, int j, List<Node> parts) {
        Sort first = parts.get(0).sort();
        switch (op) {
            case "ite":
                return parts.get(1).sort();
            case "concat":
                return new Sort('W', first.width() + parts.get(1).sort().width());
            case "extract":
                return new Sort('W', i - j + 1);
            case "zero_extend": case "sign_extend":
                return new Sort('W', first.width() + i);
            case "select":
                return new Sort('W', first.width());
            case "store": case "bvnot": case "bvneg": case "bvand": case "bvor": case "bvxor": case "bvadd":
            case "bvsub": case "bvmul": case "bvudiv": case "bvurem": case "bvshl": case "bvlshr": case "bvashr":
                return first;
            default:
                return BOOL;
        }
    }

    private static int signed(int value, int width) {
        return value >= 1 << (width - 1) ? value - (1 << width) : value;
    }

    private static int truth(boolean holds) {
        return holds ? 1 : 0;
    }

    /** The value of a term by the document's words, with numbers and without bits. */
    static int evaluate(Node node, int x) {
        Sort own = node.sort();
        int a = node.parts().size() > 0 ? evaluate(node.parts().get(0), x) : 0;
        int b = node.parts().size() > 1 ? evaluate(node.parts().get(1), x) : 0;
        int c = node.parts().size() > 2 ? evaluate(node.parts().get(2), x) : 0;
        Sort first = node.parts().isEmpty() ? own : node.parts().get(0).sort();
        int size = 1 << first.width();
        switch (node.op()) {
            case "constant": return Math.floorMod(x >> node.i(), 1 << own.bits());
            case "true": return 1;
            case "false": return 0;
            case "word": return node.i();
            case "not": return 1 - a;
            case "and": return truth(a + b == 2);
            case "or": return truth(a + b > 0);
            case "xor": return truth(a != b);
            case "=>": return truth(a <= b);
            case "=": return truth(a == b);
            case "distinct": return truth(a != b);
            case "ite": return a == 1 ? b : c;
            case "bvnot": return size - 1 - a;
            case "bvneg": return (size - a) % size;
            case "bvand": return a & b;
            case "bvor": return a | b;
            case "bvxor": return a ^ b;
            case "bvadd": return (a + b) % size;
            case "bvsub": return (a - b + size) % size;
            case "bvmul": return a * b % size;
            case "bvudiv": return b == 0 ? size - 1 : a / b;
            case "bvurem": return b == 0 ? a : a % b;
            case "bvshl": return (int) ((long) a << b) % size;
            case "bvlshr": return a >> b;
            case "bvashr": return (signed(a, first.width()) >> b) & (size - 1);
            case "bvult": return truth(a < b);
            case "bvule": return truth(a <= b);
            case "bvslt": return truth(signed(a, first.width()) < signed(b, first.width()));
            case "bvsle": return truth(signed(a, first.width()) <= signed(b, first.width()));
            case "concat": return a * (1 << node.parts().get(1).sort().width()) + b;
            case "extract": return (a >> node.j()) % (1 << (node.i() - node.j() + 1));
            case "zero_extend": return a;
            case "sign_extend": return signed(a, first.width()) & ((1 << own.width()) - 1);
            case "select": return b == 0 ? a % size : a / size;
            case "store": return b == 0 ? c + a / size * size : a % size + c * size;
            default: throw new IllegalStateException(node.op());
        }
    }

    private boolean allHold(Set<Integer> chosen, int x) {
        for (int k : chosen) {
            if (evaluate(assertions.get(k), x) == 0) {
                return false;
            }
        }
        return true;
    }

    /** The row of the model's bits as a number that is least where the document's row is. */
    private long rank(int x) {
        StringBuilder row = new StringBuilder("0");
        for (Constant c : constants) {
            for (int bit = c.node().sort().bits() - 1; bit >= 0; bit--) {
                row.append((x >> (c.offset() + bit)) & 1);
            }
        }
        return Long.parseLong(row.toString(), 2);
    }

    private Integer least(Set<Integer> chosen) {
        Integer best = null;
        for (int x = 0; x < 1 << bits(); x++) {
            if (allHold(chosen, x) && (best == null || rank(x) < rank(best))) {
                best = x;
            }
        }
        return best;
    }

    int check() {
        Set<Integer> chosen = new HashSet<>();
        for (int k = 0; k < assertions.size(); k++) {
            chosen.add(k);
        }
        model = least(chosen);
        core = null;
        if (model != null) {
            return 1;
        }
        for (int k = 0; k < assertions.size(); k++) {
            chosen.remove(k);
            if (least(chosen) != null) {
                chosen.add(k);
            }
        }
        core = chosen;
        return 0;
    }

    int value(int k) {
        if (model == null || k < 0 || k >= constants.size()) {
            return -1;
        }
        return evaluate(constants.get(k).node(), model);
    }

    boolean core(int k) {
        return core != null && core.contains(k);
    }

    int holds(int k, int x) {
        return k < 0 || k >= assertions.size() ? -1 : evaluate(assertions.get(k), x);
    }

    int terms() {
        return held.size();
    }

    int count(int which) {
        switch (which) {
            case 0: return constants.size();
            case 1: return assertions.size();
            case 2: return scopes.size();
            default: return -1;
        }
    }
}
