/**
 * Reads commands about constants of truth, words and arrays, holds their terms, and looks whether
 * all that is asserted can hold: each term is built of gates, the gates are told in clauses, and a
 * search that learns from what cannot be goes through the clauses.
 */
public final class TermSolver {
    private static final int NONE = -1;

    private static final int MOST_CHARACTERS = 120;
    private static final int MOST_TERMS = 60;
    private static final int MOST_HEAVY_TERMS = 2;
    private static final int MOST_BITS = 8;
    private static final int MOST_ASSERTIONS = 12;
    private static final int MOST_SCOPES = 4;
    private static final int MOST_LEVEL = 8;
    private static final int MOST_WIDTH = 4;

    private static final int TOO_MUCH = -1000;
    private static final int TOO_MANY_TERMS = -1001;

    // A sort is a number: BOOL, the width of a word, or the width of an array's words + MOST_WIDTH.
    private static final int BOOL = 0;

    // What a word of the language asks of the terms behind it.
    private static final int PLAIN = 0;
    private static final int LOGIC = 1;
    private static final int EQUALITY = 2;
    private static final int CHOICE = 3;
    private static final int ARITHMETIC = 4;
    private static final int ORDER = 5;
    private static final int JOIN = 6;
    private static final int PART = 7;
    private static final int WIDEN = 8;
    private static final int ELEMENT = 9;

    private static final int MOST_PARTS = 3;

    // A literal is twice a gate's number, and one more if it is turned over; gate 0 is always 1.
    private static final int TRUE = 0;
    private static final int FALSE = 1;

    private static final int FIRST_INPUT = 1;
    private static final int FIRST_GATE = FIRST_INPUT + MOST_BITS;

    // 58 terms take at most 16 gates each, and two dividers at most 64 each.
    private static final int GATE_ROOM = FIRST_GATE + 58 * 16 + 2 * 64;
    private static final int LITERAL_ROOM = 2 * GATE_ROOM;

    private static final int NOTHING_KEPT = 0;
    private static final int MODEL_KEPT = 1;
    private static final int CORE_KEPT = 2;

    private static final Word[] ALL_WORDS = Word.values();

    private final Text text = new Text();
    private final Terms terms = new Terms();
    private final Scopes scopes = new Scopes();
    private final Reader reader = new Reader(text, terms, scopes);
    private final Gates gates = new Gates();
    private final Circuits circuits = new Circuits(terms, gates);
    private final Search search = new Search(gates);
    private final int[] roots = new int[MOST_ASSERTIONS];
    private int kept = NOTHING_KEPT;
    private int model;
    private int coreSet;

    public TermSolver() {
    }

    public boolean type(int word, int n) {
        return text.append(word, n);
    }

    public int command() {
        int held = terms.size;
        text.split();
        Word order = reader.read();
        int fault = text.start(reader.faultToken);
        text.clear();
        if (order == null) {
            terms.cut(held);
            return -1 - fault;
        }
        int refusal = refusal(order);
        if (refusal != 0) {
            terms.cut(held);
            return refusal;
        }
        kept = NOTHING_KEPT;
        int answer = perform(order);
        circuits.grow();
        return answer;
    }

    public int check() {
        if (kept == NOTHING_KEPT) {
            int all = (1 << scopes.assertions) - 1;
            gatherRoots();
            orderInputs();
            if (search.canHold(roots, all)) {
                kept = MODEL_KEPT;
                model = search.inputs();
            } else {
                kept = CORE_KEPT;
                coreSet = coreOf(all);
            }
        }
        return kept == MODEL_KEPT ? 1 : 0;
    }

    public int value(int k) {
        if (kept != MODEL_KEPT || !scopes.hasConstant(k)) {
            return -1;
        }
        int constant = scopes.constantTerm[k];
        int bits = bitsOf(terms.sortOf(constant));
        return (model >> terms.numberOf(constant, 0)) & ((1 << bits) - 1);
    }

    public boolean core(int k) {
        return kept == CORE_KEPT && scopes.hasAssertion(k) && ((coreSet >> k) & 1) == 1;
    }

    public int holds(int k, int x) {
        if (!scopes.hasAssertion(k)) {
            return -1;
        }
        return gates.simulate(circuits.bitOf(scopes.assertionTerm[k], 0), x);
    }

    public int terms() {
        return terms.size;
    }

    public int count(int which) {
        switch (which) {
            case 0:
                return scopes.constants;
            case 1:
                return scopes.assertions;
            case 2:
                return scopes.scopes;
            default:
                return -1;
        }
    }

    /** What is to be answered if the command that was read goes beyond a limit, else 0. */
    private int refusal(Word order) {
        boolean tooMuch;
        int more = 0;
        switch (order) {
            case DECLARE:
                tooMuch = scopes.bits + bitsOf(reader.sort) > MOST_BITS;
                more = 1;
                break;
            case ASSERT:
                tooMuch = scopes.assertions >= MOST_ASSERTIONS;
                break;
            case PUSH:
                tooMuch = scopes.scopes >= MOST_SCOPES;
                break;
            default:
                tooMuch = scopes.scopes == 0;
                break;
        }
        if (tooMuch) {
            return TOO_MUCH;
        }
        return terms.size + more > MOST_TERMS || terms.heavyOnes() > MOST_HEAVY_TERMS ? TOO_MANY_TERMS : 0;
    }

    private int perform(Word order) {
        switch (order) {
            case DECLARE:
                return scopes.declare(reader.name, terms.addConstant(scopes.bits, reader.sort), bitsOf(reader.sort));
            case ASSERT:
                return scopes.claim(reader.term);
            case PUSH:
                return scopes.open();
            default:
                return scopes.close();
        }
    }

    private void gatherRoots() {
        for (int k = 0; k < scopes.assertions; k++) {
            roots[k] = circuits.bitOf(scopes.assertionTerm[k], 0);
        }
    }

    /** The least model is found by deciding the bits in the order that the document compares them. */
    private void orderInputs() {
        search.forgetOrder();
        for (int k = 0; k < scopes.constants; k++) {
            int constant = scopes.constantTerm[k];
            int from = terms.numberOf(constant, 0);
            for (int bit = bitsOf(terms.sortOf(constant)) - 1; bit >= 0; bit--) {
                search.decideNext(FIRST_INPUT + from + bit);
            }
        }
    }

    private int coreOf(int all) {
        int left = all;
        for (int k = 0; k < scopes.assertions; k++) {
            int without = left & ~(1 << k);
            if (!search.canHold(roots, without)) {
                left = without;
            }
        }
        return left;
    }

    private static int bitsOf(int sort) {
        if (sort == BOOL) {
            return 1;
        }
        return isWord(sort) ? sort : 2 * (sort - MOST_WIDTH);
    }

    private static boolean isWord(int sort) {
        return sort > BOOL && sort <= MOST_WIDTH;
    }

    private static boolean isArray(int sort) {
        return sort > MOST_WIDTH;
    }

    /** The words of the language, each with what it asks of how many terms behind it. */
    private enum Word {
        BOOL_SORT("Bool", PLAIN, 0),
        BIT_VEC("BitVec", PLAIN, 0),
        ARRAY("Array", PLAIN, 0),
        NUMBERED("_", PLAIN, 0),
        DECLARE("declare-const", PLAIN, 0),
        ASSERT("assert", PLAIN, 0),
        PUSH("push", PLAIN, 0),
        POP("pop", PLAIN, 0),
        TRUTH("true", PLAIN, 0),
        FALSEHOOD("false", PLAIN, 0),
        LET("let", PLAIN, 0),
        NOT("not", LOGIC, 1),
        AND("and", LOGIC, 2),
        OR("or", LOGIC, 2),
        XOR("xor", LOGIC, 2),
        IMPLIES("=>", LOGIC, 2),
        EQUAL("=", EQUALITY, 2),
        DISTINCT("distinct", EQUALITY, 2),
        ITE("ite", CHOICE, 3),
        BV_NOT("bvnot", ARITHMETIC, 1),
        BV_NEG("bvneg", ARITHMETIC, 1),
        BV_AND("bvand", ARITHMETIC, 2),
        BV_OR("bvor", ARITHMETIC, 2),
        BV_XOR("bvxor", ARITHMETIC, 2),
        BV_ADD("bvadd", ARITHMETIC, 2),
        BV_SUB("bvsub", ARITHMETIC, 2),
        BV_MUL("bvmul", ARITHMETIC, 2),
        BV_UDIV("bvudiv", ARITHMETIC, 2),
        BV_UREM("bvurem", ARITHMETIC, 2),
        BV_SHL("bvshl", ARITHMETIC, 2),
        BV_LSHR("bvlshr", ARITHMETIC, 2),
        BV_ASHR("bvashr", ARITHMETIC, 2),
        BV_ULT("bvult", ORDER, 2),
        BV_ULE("bvule", ORDER, 2),
        BV_SLT("bvslt", ORDER, 2),
        BV_SLE("bvsle", ORDER, 2),
        CONCAT("concat", JOIN, 2),
        EXTRACT("extract", PART, 1),
        ZERO_EXTEND("zero_extend", WIDEN, 1),
        SIGN_EXTEND("sign_extend", WIDEN, 1),
        SELECT("select", ELEMENT, 2),
        STORE("store", ELEMENT, 3);

        private final String spelling;
        private final int shape;
        private final int parts;

        Word(String spelling, int shape, int parts) {
            this.spelling = spelling;
            this.shape = shape;
            this.parts = parts;
        }

        boolean isHeavy() {
            return this == BV_MUL || this == BV_UDIV || this == BV_UREM;
        }

        boolean takesNumbers() {
            return shape == PART || shape == WIDEN;
        }
    }

    /** What is typed, and the brackets and symbols that it is split into; the last token is the end. */
    private static final class Text {
        private static final int TOKEN_ROOM = MOST_CHARACTERS + 1;

        private final char[] typed = new char[MOST_CHARACTERS];
        private int length;
        private final int[] from = new int[TOKEN_ROOM];
        private final int[] to = new int[TOKEN_ROOM];
        private final Word[] words = new Word[TOKEN_ROOM];
        private int tokens;

        boolean append(int word, int n) {
            if (n < 1 || n > 4 || length + n > MOST_CHARACTERS) {
                return false;
            }
            for (int i = 0; i < n; i++) {
                int letter = byteOf(word, i);
                if (letter < 32 || letter > 126) {
                    return false;
                }
            }
            for (int i = n - 1; i >= 0; i--) {
                typed[length] = (char) byteOf(word, i);
                length++;
            }
            return true;
        }

        private static int byteOf(int word, int i) {
            return (word >> (8 * i)) & 255;
        }

        void clear() {
            length = 0;
        }

        void split() {
            tokens = 0;
            int at = 0;
            while (at < length) {
                int start = at;
                at++;
                if (typed[start] == ' ') {
                    continue;
                }
                if (isOfSymbol(typed[start])) {
                    while (at < length && isOfSymbol(typed[at])) {
                        at++;
                    }
                }
                addToken(start, at);
            }
            addToken(length, length);
        }

        private void addToken(int start, int end) {
            if (tokens < TOKEN_ROOM) {
                from[tokens] = start;
                to[tokens] = end;
                words[tokens] = findWord(start, end);
                tokens++;
            }
        }

        private Word findWord(int start, int end) {
            for (Word word : ALL_WORDS) {
                if (isSpelled(word.spelling, start, end)) {
                    return word;
                }
            }
            return null;
        }

        private boolean isSpelled(String spelling, int start, int end) {
            if (spelling.length() != end - start) {
                return false;
            }
            for (int i = start; i < end; i++) {
                if (typed[i] != spelling.charAt(i - start)) {
                    return false;
                }
            }
            return true;
        }

        private static boolean isOfSymbol(char c) {
            return isLetter(c) || isDigit(c) || c == '-' || c == '_' || c == '=' || c == '>' || c == '#';
        }

        private static boolean isLetter(char c) {
            return c >= 'a' && c <= 'z' || c >= 'A' && c <= 'Z';
        }

        private static boolean isDigit(char c) {
            return c >= '0' && c <= '9';
        }

        private boolean hasToken(int token) {
            return token >= 0 && token < tokens;
        }

        /** How many characters a token has: the end has none. */
        private int sizeOf(int token) {
            return hasToken(token) ? to[token] - from[token] : 0;
        }

        int start(int token) {
            return hasToken(token) ? from[token] : length;
        }

        // The guard is written out here, as in sortOf, since calls go at most eight deep.
        boolean isBracket(int token, char bracket) {
            return token >= 0 && token < tokens && from[token] < length && typed[from[token]] == bracket;
        }

        boolean isEnd(int token) {
            return sizeOf(token) == 0;
        }

        Word wordAt(int token) {
            return hasToken(token) ? words[token] : null;
        }

        /** The letters of a name packed into one number, 0 if there is no name. */
        int nameAt(int token) {
            int size = sizeOf(token);
            if (size < 1 || size > 4 || words[token] != null) {
                return 0;
            }
            int name = 0;
            for (int i = from[token]; i < to[token]; i++) {
                if (!isLetter(typed[i])) {
                    return 0;
                }
                name = name << 8 | typed[i];
            }
            return name;
        }

        /** A number of one or two digits, NONE if there is none. */
        int numberAt(int token) {
            int size = sizeOf(token);
            if (size < 1 || size > 2 || size == 2 && typed[from[token]] == '0') {
                return NONE;
            }
            int number = 0;
            for (int i = from[token]; i < to[token]; i++) {
                if (!isDigit(typed[i])) {
                    return NONE;
                }
                number = 10 * number + typed[i] - '0';
            }
            return number;
        }

        /** The width of a word written as #b and digits, 0 if there is none. */
        int widthAt(int token) {
            int width = sizeOf(token) - 2;
            if (width < 1 || width > MOST_WIDTH || typed[from[token]] != '#' || typed[from[token] + 1] != 'b') {
                return 0;
            }
            for (int i = from[token] + 2; i < to[token]; i++) {
                if (typed[i] != '0' && typed[i] != '1') {
                    return 0;
                }
            }
            return width;
        }

        /** The value of a word of the given width written as #b and digits. */
        int bitsAt(int token, int width) {
            int bits = 0;
            if (sizeOf(token) > width) {
                for (int i = to[token] - width; i < to[token]; i++) {
                    bits = 2 * bits + typed[i] - '0';
                }
            }
            return bits;
        }
    }

    /** The terms that are held: a part that a term has not, and a number that it has not, is 0. */
    private static final class Terms {
        // A text adds at most one term for each of its characters before it is refused.
        private static final int TERM_ROOM = MOST_TERMS + MOST_CHARACTERS;

        private final Word[] ops = new Word[TERM_ROOM];
        private final int[] parts = new int[MOST_PARTS * TERM_ROOM];
        private final int[] numbers = new int[2 * TERM_ROOM];
        private final int[] sorts = new int[TERM_ROOM];
        private int size;

        private boolean has(int term) {
            return term >= 0 && term < size;
        }

        Word opOf(int term) {
            return has(term) ? ops[term] : null;
        }

        int partOf(int term, int k) {
            return has(term) && k >= 0 && k < MOST_PARTS ? parts[MOST_PARTS * term + k] : NONE;
        }

        int numberOf(int term, int k) {
            return has(term) && k >= 0 && k < 2 ? numbers[2 * term + k] : 0;
        }

        int sortOf(int term) {
            return term >= 0 && term < size ? sorts[term] : BOOL;
        }

        /** A constant is a term of its own, whatever was there before: it is never looked for. */
        int addConstant(int from, int sort) {
            prepare(Word.DECLARE, from, 0, sort);
            return add();
        }

        /** Writes a term behind those that are held; it is held only by make or add. */
        void prepare(Word op, int i, int j, int sort) {
            if (size < TERM_ROOM) {
                ops[size] = op;
                numbers[2 * size] = i;
                numbers[2 * size + 1] = j;
                sorts[size] = sort;
                for (int k = 0; k < MOST_PARTS; k++) {
                    parts[MOST_PARTS * size + k] = 0;
                }
            }
        }

        void preparePart(int k, int part) {
            if (size < TERM_ROOM && k >= 0 && k < MOST_PARTS) {
                parts[MOST_PARTS * size + k] = part;
            }
        }

        /** The term that is the same as the prepared one, which is held from now on. */
        int make() {
            for (int term = 0; term < size; term++) {
                if (isPrepared(term)) {
                    return term;
                }
            }
            return add();
        }

        private boolean isPrepared(int term) {
            if (size >= TERM_ROOM || ops[term] != ops[size] || sorts[term] != sorts[size]) {
                return false;
            }
            for (int k = 0; k < MOST_PARTS; k++) {
                if (parts[MOST_PARTS * term + k] != parts[MOST_PARTS * size + k]) {
                    return false;
                }
            }
            return numbers[2 * term] == numbers[2 * size] && numbers[2 * term + 1] == numbers[2 * size + 1];
        }

        private int add() {
            if (size >= TERM_ROOM) {
                return NONE;
            }
            size++;
            return size - 1;
        }

        void cut(int held) {
            if (held >= 0 && held < size) {
                size = held;
            }
        }

        int heavyOnes() {
            int heavy = 0;
            for (int term = 0; term < size; term++) {
                if (ops[term] != null && ops[term].isHeavy()) {
                    heavy++;
                }
            }
            return heavy;
        }
    }

    /** The constants and assertions that are there, and where each scope began. */
    private static final class Scopes {
        private final int[] constantName = new int[MOST_BITS];
        private final int[] constantTerm = new int[MOST_BITS];
        private int constants;
        private int bits;
        private final int[] assertionTerm = new int[MOST_ASSERTIONS];
        private int assertions;
        private final int[] constantsBefore = new int[MOST_SCOPES];
        private final int[] bitsBefore = new int[MOST_SCOPES];
        private final int[] assertionsBefore = new int[MOST_SCOPES];
        private int scopes;

        boolean hasConstant(int k) {
            return k >= 0 && k < constants;
        }

        boolean hasAssertion(int k) {
            return k >= 0 && k < assertions;
        }

        /** The term of the constant with that name, NONE if there is none. */
        int find(int name) {
            for (int k = 0; k < constants; k++) {
                if (constantName[k] == name) {
                    return constantTerm[k];
                }
            }
            return NONE;
        }

        int declare(int name, int term, int more) {
            if (constants < MOST_BITS) {
                constantName[constants] = name;
                constantTerm[constants] = term;
                constants++;
                bits += more;
            }
            return constants;
        }

        int claim(int term) {
            if (assertions < MOST_ASSERTIONS) {
                assertionTerm[assertions] = term;
                assertions++;
            }
            return assertions;
        }

        int open() {
            if (scopes < MOST_SCOPES) {
                constantsBefore[scopes] = constants;
                bitsBefore[scopes] = bits;
                assertionsBefore[scopes] = assertions;
                scopes++;
            }
            return scopes;
        }

        int close() {
            if (scopes > 0) {
                scopes--;
                constants = constantsBefore[scopes];
                bits = bitsBefore[scopes];
                assertions = assertionsBefore[scopes];
            }
            return scopes;
        }
    }

    /** Reads the typed text from the left, and makes the terms in it, up to where it is at fault. */
    private static final class Reader {
        private final Text text;
        private final Terms terms;
        private final Scopes scopes;
        private int at;
        private int faultToken;
        private int name;
        private int sort;
        private int term;
        private final int[] parts = new int[MOST_PARTS * (MOST_LEVEL + 1)];
        private final int[] letName = new int[MOST_LEVEL];
        private final int[] letTerm = new int[MOST_LEVEL];
        private int lets;

        Reader(Text text, Terms terms, Scopes scopes) {
            this.text = text;
            this.terms = terms;
            this.scopes = scopes;
        }

        /** The command that the text is, null if it is faulty. */
        Word read() {
            at = 0;
            lets = 0;
            faultToken = 0;
            if (!bracket('(')) {
                return null;
            }
            Word order = text.wordAt(at);
            if (!readBehind(order) || !bracket(')')) {
                return null;
            }
            if (!text.isEnd(at)) {
                failAt(at);
                return null;
            }
            return order;
        }

        private boolean readBehind(Word order) {
            int start = at;
            at++;
            if (order == Word.PUSH || order == Word.POP) {
                return true;
            }
            if (order == Word.DECLARE) {
                return readNewName() && readSort();
            }
            if (order == Word.ASSERT) {
                int first = at;
                term = readTerm(1);
                return term != NONE && (terms.sortOf(term) == BOOL || failAt(first));
            }
            return failAt(start);
        }

        /** Tells the fault, and is false so that callers can hand the failure on. */
        private boolean failAt(int token) {
            faultToken = token;
            return false;
        }

        private int noTermAt(int token) {
            faultToken = token;
            return NONE;
        }

        private boolean bracket(char bracket) {
            if (!text.isBracket(at, bracket)) {
                return failAt(at);
            }
            at++;
            return true;
        }

        private boolean word(Word word) {
            if (text.wordAt(at) != word) {
                return failAt(at);
            }
            at++;
            return true;
        }

        private boolean readNewName() {
            name = text.nameAt(at);
            if (name == 0 || scopes.find(name) != NONE) {
                return failAt(at);
            }
            at++;
            return true;
        }

        private boolean readSort() {
            if (text.wordAt(at) == Word.BOOL_SORT) {
                sort = BOOL;
                at++;
                return true;
            }
            if (!bracket('(')) {
                return false;
            }
            if (text.wordAt(at) != Word.ARRAY) {
                return readWidth(MOST_WIDTH);
            }
            at++;
            if (!bracket('(') || !readWidth(1) || !bracket('(') || !readWidth(MOST_WIDTH)) {
                return false;
            }
            sort += MOST_WIDTH;
            return bracket(')');
        }

        /** Reads a sort of words behind its opening bracket. */
        private boolean readWidth(int most) {
            if (!word(Word.NUMBERED) || !word(Word.BIT_VEC)) {
                return false;
            }
            sort = text.numberAt(at);
            if (sort < 1 || sort > most) {
                return failAt(at);
            }
            at++;
            return bracket(')');
        }

        private int readTerm(int level) {
            if (level > MOST_LEVEL) {
                return noTermAt(at);
            }
            if (!text.isBracket(at, '(')) {
                return readAtom();
            }
            at++;
            if (text.isBracket(at, '(')) {
                return readNumbered(level);
            }
            Word op = text.wordAt(at);
            if (op == Word.LET) {
                return readLet(level);
            }
            if (op == null || op.parts == 0 || op.takesNumbers()) {
                return noTermAt(at);
            }
            at++;
            return readParts(op, 0, 0, level);
        }

        private int readAtom() {
            int token = at;
            at++;
            Word word = text.wordAt(token);
            if (word == Word.TRUTH || word == Word.FALSEHOOD) {
                terms.prepare(word, 0, 0, BOOL);
                return terms.make();
            }
            int width = text.widthAt(token);
            if (width > 0) {
                terms.prepare(Word.BIT_VEC, text.bitsAt(token, width), 0, width);
                return terms.make();
            }
            int named = text.nameAt(token);
            int found = named == 0 ? NONE : meaningOf(named);
            return found == NONE ? noTermAt(token) : found;
        }

        private int meaningOf(int named) {
            for (int k = lets - 1; k >= 0; k--) {
                if (letName[k] == named) {
                    return letTerm[k];
                }
            }
            return scopes.find(named);
        }

        private int readLet(int level) {
            at++;
            if (!bracket('(') || !bracket('(')) {
                return NONE;
            }
            int named = text.nameAt(at);
            if (named == 0 || lets >= MOST_LEVEL) {
                return noTermAt(at);
            }
            at++;
            int given = readTerm(level + 1);
            if (given == NONE || !bracket(')') || !bracket(')')) {
                return NONE;
            }
            letName[lets] = named;
            letTerm[lets] = given;
            lets++;
            int body = readTerm(level + 1);
            lets--;
            return body != NONE && bracket(')') ? body : NONE;
        }

        private int readNumbered(int level) {
            at++;
            if (!word(Word.NUMBERED)) {
                return NONE;
            }
            Word op = text.wordAt(at);
            if (op == null || !op.takesNumbers()) {
                return noTermAt(at);
            }
            at++;
            int first = text.numberAt(at);
            if (first == NONE) {
                return noTermAt(at);
            }
            at++;
            int second = 0;
            if (op == Word.EXTRACT) {
                second = text.numberAt(at);
                if (second == NONE || second > first) {
                    return noTermAt(at);
                }
                at++;
            }
            return bracket(')') ? readParts(op, first, second, level) : NONE;
        }

        /** Reads the terms directly in a term and its last bracket, and makes it. */
        private int readParts(Word op, int i, int j, int level) {
            int base = MOST_PARTS * level;
            for (int k = 0; k < op.parts && k < MOST_PARTS; k++) {
                int start = at;
                parts[base + k] = readTerm(level + 1);
                if (parts[base + k] == NONE) {
                    return NONE;
                }
                if (!fits(op, k, base, i)) {
                    return noTermAt(start);
                }
            }
            if (!bracket(')')) {
                return NONE;
            }
            terms.prepare(op, i, j, resultSort(op, base, i, j));
            for (int k = 0; k < op.parts && k < MOST_PARTS; k++) {
                terms.preparePart(k, parts[base + k]);
            }
            return terms.make();
        }

        /** Whether part k is of a sort that the operator, its number and the parts before it allow. */
        private boolean fits(Word op, int k, int base, int number) {
            int own = terms.sortOf(parts[base + k]);
            int first = terms.sortOf(parts[base]);
            switch (op.shape) {
                case LOGIC:
                    return own == BOOL;
                case EQUALITY:
                    return own == first;
                case CHOICE:
                    return k == 0 ? own == BOOL : own == terms.sortOf(parts[base + 1]);
                case ARITHMETIC:
                case ORDER:
                    return isWord(own) && own == first;
                case JOIN:
                    return isWord(own) && (k == 0 || first + own <= MOST_WIDTH);
                case PART:
                    return isWord(own) && own > number;
                case WIDEN:
                    return isWord(own) && own + number <= MOST_WIDTH;
                case ELEMENT:
                    return k == 0 ? isArray(own) : own == (k == 1 ? 1 : first - MOST_WIDTH);
                default:
                    return false;
            }
        }

        private int resultSort(Word op, int base, int i, int j) {
            int first = terms.sortOf(parts[base]);
            switch (op.shape) {
                case CHOICE:
                    return terms.sortOf(parts[base + 1]);
                case ARITHMETIC:
                    return first;
                case JOIN:
                    return first + terms.sortOf(parts[base + 1]);
                case PART:
                    return i - j + 1;
                case WIDEN:
                    return first + i;
                case ELEMENT:
                    return op == Word.STORE ? first : first - MOST_WIDTH;
                default:
                    return BOOL;
            }
        }
    }

    /** Gates over the 8 bits that constants can have; a gate's parts always come before it. */
    private static final class Gates {
        private static final int AND = 0;
        private static final int XOR = 1;
        private static final int MUX = 2;

        private final int[] kinds = new int[GATE_ROOM];
        private final int[] lefts = new int[GATE_ROOM];
        private final int[] rights = new int[GATE_ROOM];
        private final int[] choosers = new int[GATE_ROOM];
        private final int[] state = new int[GATE_ROOM];
        private int size = FIRST_GATE;

        int and(int a, int b) {
            if (a == FALSE || b == FALSE || a == (b ^ 1)) {
                return FALSE;
            }
            if (a == TRUE || a == b) {
                return b;
            }
            return b == TRUE ? a : put(AND, TRUE, a, b);
        }

        int or(int a, int b) {
            return and(a ^ 1, b ^ 1) ^ 1;
        }

        int xor(int a, int b) {
            if (a >> 1 == b >> 1) {
                return a == b ? FALSE : TRUE;
            }
            if (a >> 1 == TRUE) {
                return b ^ a ^ 1;
            }
            return b >> 1 == TRUE ? a ^ b ^ 1 : put(XOR, TRUE, a, b);
        }

        /** yes if the chooser is 1, else no. */
        int mux(int chooser, int yes, int no) {
            if (chooser >> 1 == TRUE) {
                return chooser == TRUE ? yes : no;
            }
            int a = yes >> 1 == chooser >> 1 ? yes ^ chooser : yes;
            int b = no >> 1 == chooser >> 1 ? no ^ chooser ^ 1 : no;
            if (a == b) {
                return a;
            }
            if (a >> 1 == TRUE) {
                return a == FALSE ? and(chooser ^ 1, b) : and(chooser ^ 1, b ^ 1) ^ 1;
            }
            if (b >> 1 == TRUE) {
                return b == FALSE ? and(chooser, a) : and(chooser, a ^ 1) ^ 1;
            }
            return put(MUX, chooser, a, b);
        }

        private int put(int kind, int chooser, int a, int b) {
            if (size >= GATE_ROOM) {
                return FALSE;
            }
            kinds[size] = kind;
            choosers[size] = chooser;
            lefts[size] = a;
            rights[size] = b;
            size++;
            return 2 * (size - 1);
        }

        /** The value of a literal, if the constants have their bits from x. */
        int simulate(int literal, int x) {
            int last = literal >> 1;
            if (last < 0 || last >= size) {
                return 0;
            }
            state[0] = 1;
            for (int input = 0; input < MOST_BITS; input++) {
                state[FIRST_INPUT + input] = (x >> input) & 1;
            }
            for (int gate = FIRST_GATE; gate <= last; gate++) {
                state[gate] = simulateGate(gate);
            }
            return valueOf(literal);
        }

        private int simulateGate(int gate) {
            int a = valueOf(lefts[gate]);
            int b = valueOf(rights[gate]);
            switch (kinds[gate]) {
                case AND:
                    return a & b;
                case XOR:
                    return a ^ b;
                default:
                    return valueOf(choosers[gate]) == 1 ? a : b;
            }
        }

        private int valueOf(int literal) {
            return state[literal >> 1] ^ (literal & 1);
        }
    }

    /** Builds the bits of each term, the lowest first, out of gates. */
    private static final class Circuits {
        private static final int TERM_ROOM = MOST_TERMS;

        private final Terms terms;
        private final Gates gates;
        private final int[] bits = new int[MOST_BITS * TERM_ROOM];
        private int built;
        // The two words that are added and their sum.
        private final int[] left = new int[MOST_WIDTH];
        private final int[] right = new int[MOST_WIDTH];
        private final int[] sum = new int[MOST_WIDTH];

        Circuits(Terms terms, Gates gates) {
            this.terms = terms;
            this.gates = gates;
        }

        int bitOf(int term, int bit) {
            return term >= 0 && term < built && bit >= 0 && bit < MOST_BITS ? bits[MOST_BITS * term + bit] : FALSE;
        }

        private void set(int bit, int literal) {
            if (built < TERM_ROOM && bit >= 0 && bit < MOST_BITS) {
                bits[MOST_BITS * built + bit] = literal;
            }
        }

        /** Builds what has come to the terms; all parts of a term are built before it. */
        void grow() {
            while (built < terms.size && built < TERM_ROOM) {
                Word op = terms.opOf(built);
                int a = terms.partOf(built, 0);
                int b = terms.partOf(built, 1);
                int c = terms.partOf(built, 2);
                switch (op == null ? PLAIN : op.shape) {
                    case LOGIC:
                        set(0, logic(op, bitOf(a, 0), bitOf(b, 0)));
                        break;
                    case EQUALITY:
                        set(0, op == Word.EQUAL ? equal(a, b) : equal(a, b) ^ 1);
                        break;
                    case CHOICE:
                        choose(bitOf(a, 0), b, c);
                        break;
                    case ARITHMETIC:
                        calculate(op, a, b);
                        break;
                    case ORDER:
                        set(0, less(op, a, b));
                        break;
                    case JOIN:
                    case PART:
                    case WIDEN:
                        place(op, a, b);
                        break;
                    case ELEMENT:
                        reach(op, a, b, c);
                        break;
                    default:
                        begin(op);
                        break;
                }
                built++;
            }
        }

        private int widthOf(int term) {
            return bitsOf(terms.sortOf(term));
        }

        private void begin(Word op) {
            int number = terms.numberOf(built, 0);
            if (op == Word.TRUTH || op == Word.FALSEHOOD) {
                set(0, op == Word.TRUTH ? TRUE : FALSE);
                return;
            }
            for (int i = 0; i < widthOf(built); i++) {
                if (op == Word.DECLARE) {
                    set(i, 2 * (FIRST_INPUT + number + i));
                } else {
                    set(i, ((number >> i) & 1) == 1 ? TRUE : FALSE);
                }
            }
        }

        private int logic(Word op, int a, int b) {
            switch (op) {
                case NOT:
                    return a ^ 1;
                case AND:
                    return gates.and(a, b);
                case OR:
                    return gates.or(a, b);
                case XOR:
                    return gates.xor(a, b);
                default:
                    return gates.or(a ^ 1, b);
            }
        }

        private int equal(int a, int b) {
            int same = TRUE;
            for (int i = 0; i < widthOf(a); i++) {
                same = gates.and(same, gates.xor(bitOf(a, i), bitOf(b, i)) ^ 1);
            }
            return same;
        }

        private void choose(int chooser, int a, int b) {
            for (int i = 0; i < widthOf(a); i++) {
                set(i, gates.mux(chooser, bitOf(a, i), bitOf(b, i)));
            }
        }

        /** Goes from the lowest bit up: the highest bit in which the words differ tells. */
        private int less(Word op, int a, int b) {
            int top = widthOf(a) - 1;
            boolean signed = op == Word.BV_SLT || op == Word.BV_SLE;
            int less = op == Word.BV_ULE || op == Word.BV_SLE ? TRUE : FALSE;
            for (int i = 0; i <= top; i++) {
                int more = signed && i == top ? bitOf(a, i) : bitOf(b, i);
                less = gates.mux(gates.xor(bitOf(a, i), bitOf(b, i)), more, less);
            }
            return less;
        }

        private void place(Word op, int a, int b) {
            int low = op == Word.CONCAT ? b : a;
            int skipped = op == Word.EXTRACT ? terms.numberOf(built, 1) : 0;
            int lowWidth = widthOf(low);
            int above = op == Word.SIGN_EXTEND ? bitOf(a, lowWidth - 1) : FALSE;
            for (int i = 0; i < widthOf(built); i++) {
                if (i + skipped < lowWidth) {
                    set(i, bitOf(low, i + skipped));
                } else {
                    set(i, op == Word.CONCAT ? bitOf(a, i - lowWidth) : above);
                }
            }
        }

        private void reach(Word op, int array, int index, int element) {
            int width = widthOf(array) / 2;
            int second = bitOf(index, 0);
            for (int i = 0; i < width; i++) {
                int low = bitOf(array, i);
                int high = bitOf(array, width + i);
                if (op == Word.SELECT) {
                    set(i, gates.mux(second, high, low));
                } else {
                    set(i, gates.mux(second, low, bitOf(element, i)));
                    set(width + i, gates.mux(second, bitOf(element, i), high));
                }
            }
        }

        private void calculate(Word op, int a, int b) {
            int width = Math.min(widthOf(a), MOST_WIDTH);
            switch (op) {
                case BV_NEG:
                    loadLeft(NONE, width);
                    loadRight(a, width, true);
                    add(width, TRUE);
                    break;
                case BV_ADD:
                    loadLeft(a, width);
                    loadRight(b, width, false);
                    add(width, FALSE);
                    break;
                case BV_SUB:
                    loadLeft(a, width);
                    loadRight(b, width, true);
                    add(width, TRUE);
                    break;
                case BV_MUL:
                    multiply(a, b, width);
                    break;
                case BV_UDIV:
                case BV_UREM:
                    divide(op, a, b, width);
                    return;
                case BV_SHL:
                case BV_LSHR:
                case BV_ASHR:
                    shift(op, a, b, width);
                    break;
                default:
                    mix(op, a, b, width);
                    break;
            }
            for (int i = 0; i < width; i++) {
                set(i, sum[i]);
            }
        }

        private void mix(Word op, int a, int b, int width) {
            for (int i = 0; i < width; i++) {
                switch (op) {
                    case BV_AND:
                        sum[i] = gates.and(bitOf(a, i), bitOf(b, i));
                        break;
                    case BV_OR:
                        sum[i] = gates.or(bitOf(a, i), bitOf(b, i));
                        break;
                    case BV_XOR:
                        sum[i] = gates.xor(bitOf(a, i), bitOf(b, i));
                        break;
                    default:
                        sum[i] = bitOf(a, i) ^ 1;
                        break;
                }
            }
        }

        /** Fills left with a term's bits; NONE is a word of zeros. */
        private void loadLeft(int term, int width) {
            for (int i = 0; i < width; i++) {
                left[i] = bitOf(term, i);
            }
        }

        private void loadRight(int term, int width, boolean turned) {
            for (int i = 0; i < width; i++) {
                right[i] = turned ? bitOf(term, i) ^ 1 : bitOf(term, i);
            }
        }

        /** Adds left, right and a carry into sum, and gives the last carry. */
        private int add(int width, int first) {
            int carry = first;
            for (int i = 0; i < width; i++) {
                int differ = gates.xor(left[i], right[i]);
                sum[i] = gates.xor(differ, carry);
                carry = gates.mux(differ, carry, left[i]);
            }
            return carry;
        }

        private void multiply(int a, int b, int width) {
            loadLeft(NONE, width);
            for (int k = 0; k < width; k++) {
                for (int i = 0; i < width; i++) {
                    right[i] = i < k ? FALSE : gates.and(bitOf(a, i - k), bitOf(b, k));
                }
                add(width, FALSE);
                for (int i = 0; i < width; i++) {
                    left[i] = sum[i];
                }
            }
        }

        /**
         * Divides as by hand, with the rest in left: it is never more than the dividend's bits so
         * far, so it needs no more bits than they. A divisor 0 always goes into the rest: then the
         * quotient is all ones and the rest is the dividend, as the document asks.
         */
        private void divide(Word op, int a, int b, int width) {
            loadLeft(NONE, width);
            loadRight(b, width, true);
            for (int k = width - 1; k >= 0; k--) {
                for (int i = width - 1; i > 0; i--) {
                    left[i] = left[i - 1];
                }
                left[0] = bitOf(a, k);
                int goesIn = add(width, TRUE);
                for (int i = 0; i < width; i++) {
                    left[i] = gates.mux(goesIn, sum[i], left[i]);
                }
                if (op == Word.BV_UDIV) {
                    set(k, goesIn);
                }
            }
            for (int i = 0; i < width && op == Word.BV_UREM; i++) {
                set(i, left[i]);
            }
        }

        /** Shifts by 1, 2, 4 and 8 places, each if that bit of b is set. */
        private void shift(Word op, int a, int b, int width) {
            int fill = op == Word.BV_ASHR ? bitOf(a, width - 1) : FALSE;
            loadLeft(a, width);
            for (int k = 0; k < width; k++) {
                int places = op == Word.BV_SHL ? -(1 << k) : 1 << k;
                for (int i = 0; i < width; i++) {
                    int from = i + places;
                    int moved = from >= 0 && from < width ? left[from] : fill;
                    sum[i] = gates.mux(bitOf(b, k), moved, left[i]);
                }
                for (int i = 0; i < width; i++) {
                    left[i] = sum[i];
                }
            }
        }
    }

    /** Clauses of two literals or more, of which the first two are watched. */
    private static final class Clauses {
        // A gate has at most 4 clauses of 3 literals; at most one is learned for each set of inputs.
        private static final int LEARNED_ROOM = 1 << MOST_BITS;
        private static final int CLAUSE_ROOM = 4 * GATE_ROOM + LEARNED_ROOM;
        private static final int WORD_ROOM = 12 * GATE_ROOM + MOST_BITS * LEARNED_ROOM;
        private static final int LINK_ROOM = 2 * CLAUSE_ROOM;

        private final int[] literals = new int[WORD_ROOM];
        private final int[] from = new int[CLAUSE_ROOM + 1];
        private int size;
        // Link 2 * clause + slot stands in the chain of the literal that this slot watches.
        private final int[] firstLink = new int[LITERAL_ROOM];
        private final int[] nextLink = new int[LINK_ROOM];

        /** Forgets all clauses; none that comes then has a gate from this number on. */
        void clear(int gates) {
            size = 0;
            from[1] = 0;
            for (int literal = 0; literal < 2 * gates && literal < LITERAL_ROOM; literal++) {
                firstLink[literal] = NONE;
            }
        }

        /** Tells in clauses what a gate does. */
        void tell(int kind, int own, int chooser, int a, int b) {
            switch (kind) {
                case Gates.AND:
                    add(own ^ 1, a, NONE);
                    add(own ^ 1, b, NONE);
                    add(own, a ^ 1, b ^ 1);
                    break;
                case Gates.XOR:
                    add(own ^ 1, a, b);
                    add(own ^ 1, a ^ 1, b ^ 1);
                    add(own, a ^ 1, b);
                    add(own, a, b ^ 1);
                    break;
                default:
                    add(own ^ 1, chooser ^ 1, a);
                    add(own, chooser ^ 1, a ^ 1);
                    add(own ^ 1, chooser, b);
                    add(own, chooser, b ^ 1);
                    break;
            }
        }

        private void add(int a, int b, int c) {
            gather(a);
            gather(b);
            if (c != NONE) {
                gather(c);
            }
            finish();
        }

        /** Writes a literal of a clause that is there from finish on. */
        void gather(int literal) {
            if (size < CLAUSE_ROOM && from[size + 1] < WORD_ROOM) {
                literals[from[size + 1]] = literal;
                from[size + 1]++;
            }
        }

        /** The number of the clause whose literals were gathered. */
        int finish() {
            if (size >= CLAUSE_ROOM || from[size + 1] - from[size] < 2) {
                return NONE;
            }
            int clause = size;
            size++;
            if (size < CLAUSE_ROOM) {
                from[size + 1] = from[size];
            }
            watch(2 * clause);
            watch(2 * clause + 1);
            return clause;
        }

        int watched(int link) {
            return literals[from[link >> 1] + (link & 1)];
        }

        void watch(int link) {
            int literal = literals[from[link >> 1] + (link & 1)];
            nextLink[link] = firstLink[literal];
            firstLink[literal] = link;
        }

        /** Watches the literal at the place instead of the one that the link's slot has. */
        void exchange(int link, int place) {
            int slot = from[link >> 1] + (link & 1);
            int other = literals[place];
            literals[place] = literals[slot];
            literals[slot] = other;
            watch(link);
        }
    }

    /** Looks for values of the inputs that make all roots 1, the least ones first. */
    private static final class Search {
        private static final int UNKNOWN = 2;
        private static final int GIVEN = -1;
        private static final int DECIDED = -2;
        private static final int MOST_STEPS = 1000000;

        private final Gates gates;
        private final Clauses clauses = new Clauses();
        private final int[] order = new int[MOST_BITS];
        private int ordered;
        private final boolean[] marked = new boolean[GATE_ROOM];
        private final int[] truths = new int[GATE_ROOM];
        private final int[] levels = new int[GATE_ROOM];
        private final int[] reasons = new int[GATE_ROOM];
        private final int[] trail = new int[GATE_ROOM];
        private int trailSize;
        private int looked;
        private int level;
        private final int[] learned = new int[MOST_BITS];
        private int learnedSize;

        Search(Gates gates) {
            this.gates = gates;
        }

        void forgetOrder() {
            ordered = 0;
        }

        void decideNext(int input) {
            if (ordered < MOST_BITS && input >= FIRST_INPUT && input < FIRST_GATE) {
                order[ordered] = input;
                ordered++;
            }
        }

        /** The bits of the inputs that were found last. */
        int inputs() {
            int x = 0;
            for (int i = 0; i < MOST_BITS; i++) {
                if (truths[FIRST_INPUT + i] == 1) {
                    x |= 1 << i;
                }
            }
            return x;
        }

        /** Whether the roots whose bits are set in chosen can be 1 together. */
        boolean canHold(int[] roots, int chosen) {
            begin();
            for (int k = 0; k < roots.length; k++) {
                if (((chosen >> k) & 1) == 1) {
                    int truth = truthOf(roots[k]);
                    if (truth == 0) {
                        return false;
                    }
                    if (truth == UNKNOWN) {
                        assign(roots[k], GIVEN);
                        marked[roots[k] >> 1] = true;
                    }
                }
            }
            loadMarked();
            for (int step = 0; step < MOST_STEPS; step++) {
                int broken = propagate();
                if (broken == NONE) {
                    if (!decide()) {
                        return true;
                    }
                } else if (!learnFrom(broken)) {
                    return false;
                }
            }
            return false;
        }

        private void begin() {
            clauses.clear(gates.size);
            for (int gate = 0; gate < gates.size && gate < GATE_ROOM; gate++) {
                truths[gate] = UNKNOWN;
                marked[gate] = false;
            }
            truths[0] = 1;
            trailSize = 0;
            looked = 0;
            level = 0;
        }

        private int truthOf(int literal) {
            int truth = truths[literal >> 1];
            return truth == UNKNOWN ? UNKNOWN : truth ^ (literal & 1);
        }

        private void assign(int literal, int reason) {
            int gate = literal >> 1;
            if (trailSize < GATE_ROOM) {
                truths[gate] = 1 ^ (literal & 1);
                levels[gate] = level;
                reasons[gate] = reason;
                trail[trailSize] = literal;
                trailSize++;
            }
        }

        /** Tells in clauses the gates that the roots are made of, and no others. */
        private void loadMarked() {
            for (int gate = gates.size - 1; gate >= FIRST_GATE; gate--) {
                if (marked[gate]) {
                    marked[gate] = false;
                    int chooser = gates.choosers[gate];
                    int a = gates.lefts[gate];
                    int b = gates.rights[gate];
                    marked[chooser >> 1] = true;
                    marked[a >> 1] = true;
                    marked[b >> 1] = true;
                    clauses.tell(gates.kinds[gate], 2 * gate, chooser, a, b);
                }
            }
            for (int gate = 0; gate < FIRST_GATE; gate++) {
                marked[gate] = false;
            }
        }

        /** Draws what follows from what is assigned: a clause that is broken then, or NONE. */
        private int propagate() {
            while (looked < trailSize && looked < GATE_ROOM) {
                int broken = visit(trail[looked] ^ 1);
                looked++;
                if (broken != NONE) {
                    return broken;
                }
            }
            return NONE;
        }

        /** Looks at all clauses that watch a literal which has become 0. */
        private int visit(int literal) {
            int broken = NONE;
            int link = clauses.firstLink[literal];
            clauses.firstLink[literal] = NONE;
            for (int n = 0; n < Clauses.LINK_ROOM && link != NONE; n++) {
                int next = clauses.nextLink[link];
                int other = clauses.watched(link ^ 1);
                int truth = truthOf(other);
                int place = broken != NONE || truth == 1 ? NONE : openPlace(link >> 1);
                if (place != NONE) {
                    clauses.exchange(link, place);
                } else {
                    clauses.watch(link);
                    if (broken == NONE && truth == 0) {
                        broken = link >> 1;
                    } else if (broken == NONE && truth == UNKNOWN) {
                        assign(other, link >> 1);
                    }
                }
                link = next;
            }
            return broken;
        }

        /** Where a clause has a literal that is not 0 and is not watched, NONE if nowhere. */
        private int openPlace(int clause) {
            for (int place = clauses.from[clause] + 2; place < clauses.from[clause + 1]; place++) {
                if (truthOf(clauses.literals[place]) != 0) {
                    return place;
                }
            }
            return NONE;
        }

        /** Sets the first open input to 0; false if there is none. */
        private boolean decide() {
            for (int i = 0; i < ordered; i++) {
                if (truths[order[i]] == UNKNOWN) {
                    level++;
                    assign(2 * order[i] + 1, DECIDED);
                    return true;
                }
            }
            return false;
        }

        /**
         * Learns that the decisions behind a broken clause cannot be together, and goes back to
         * where the last of them follows turned over; false if there are none to turn.
         */
        private boolean learnFrom(int broken) {
            collectDecisions(broken);
            if (learnedSize == 0) {
                return false;
            }
            int reason = GIVEN;
            int back = 0;
            if (learnedSize > 1) {
                back = levels[learned[1] >> 1];
                for (int i = 0; i < learnedSize; i++) {
                    clauses.gather(learned[i]);
                }
                reason = clauses.finish();
            }
            goBack(back);
            assign(learned[0], reason);
            return true;
        }

        /** Goes from the broken clause back by the reasons; the latest decision is learned first. */
        private void collectDecisions(int broken) {
            learnedSize = 0;
            markClause(broken);
            for (int i = trailSize - 1; i >= 0; i--) {
                int gate = trail[i] >> 1;
                if (marked[gate]) {
                    if (reasons[gate] >= 0) {
                        markClause(reasons[gate]);
                    } else if (reasons[gate] == DECIDED && learnedSize < MOST_BITS) {
                        learned[learnedSize] = trail[i] ^ 1;
                        learnedSize++;
                    }
                    marked[gate] = false;
                }
            }
        }

        private void markClause(int clause) {
            for (int place = clauses.from[clause]; place < clauses.from[clause + 1]; place++) {
                marked[clauses.literals[place] >> 1] = true;
            }
        }

        private void goBack(int to) {
            while (trailSize > 0 && levels[trail[trailSize - 1] >> 1] > to) {
                trailSize--;
                truths[trail[trailSize] >> 1] = UNKNOWN;
            }
            looked = Math.min(looked, trailSize);
            level = to;
        }
    }
}
