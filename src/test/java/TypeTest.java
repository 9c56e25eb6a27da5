/** Promise 2: type appends the n lowest bytes, the highest first, and refuses what is no text. */
public final class TypeTest {
    public static void main(String[] args) {
        Checks checks = new Checks();
        appendsTheLowestBytes(checks);
        refusesOtherLengths(checks);
        refusesOtherCharacters(checks);
        refusesMoreThan120(checks);
        aRefusedCallChangesNothing(checks);
        typingKeepsWhatIsKept(checks);
        eachLengthNearTheLimit(checks);
        theHighestByteIsTheFirst(checks);
        checks.end("TypeTest");
    }

    private static void appendsTheLowestBytes(Checks checks) {
        TermSolver solver = new TermSolver();
        checks.due("type '(' under other bytes", solver.type(0x01020328, 1), true);
        checks.due("type 'pu' under other bytes", solver.type(0x7fff7075, 2), true);
        checks.due("type 'sh)' under another byte", solver.type(0xff736829, 3), true);
        checks.due("type four spaces", solver.type(0x20202020, 4), true);
        checks.due("command() of (push)", solver.command(), 1);
        checks.due("type '(pop'", solver.type(0x28706f70, 4), true);
        checks.due("type ')'", solver.type(0x29, 1), true);
        checks.due("command() of (pop)", solver.command(), 0);
    }

    private static void refusesOtherLengths(Checks checks) {
        TermSolver solver = new TermSolver();
        for (int n : new int[] {0, 5, -1, 8, Integer.MIN_VALUE, Integer.MAX_VALUE}) {
            checks.due("type of " + n + " bytes", solver.type(0x41414141, n), false);
        }
        checks.due("command() after them", solver.command(), -1);
    }

    private static void refusesOtherCharacters(Checks checks) {
        for (int c = 0; c < 256; c++) {
            TermSolver solver = new TermSolver();
            boolean allowed = c >= 32 && c <= 126;
            for (int n = 1; n <= 4; n++) {
                for (int place = 0; place < n; place++) {
                    int word = 0x20202020 & ~(255 << 8 * place) | c << 8 * place;
                    checks.due("type of character " + c + " at byte " + place + " of " + n, solver.type(word, n), allowed);
                }
            }
        }
        TermSolver solver = new TermSolver();
        checks.due("type of a good byte under bad ones", solver.type(0x80007f20, 1), true);
        checks.due("type of a bad byte above it", solver.type(0x80007f20, 2), false);
    }

    private static void refusesMoreThan120(Checks checks) {
        TermSolver solver = new TermSolver();
        for (int i = 0; i < 29; i++) {
            checks.due("type of spaces " + i, solver.type(0x20202020, 4), true);
        }
        checks.due("type up to 119", solver.type(0x202020, 3), true);
        checks.due("type up to 121", solver.type(0x2020, 2), false);
        checks.due("type up to 120", solver.type(0x20, 1), true);
        checks.due("type up to 121 again", solver.type(0x20, 1), false);
        checks.due("command() of 120 spaces", solver.command(), -121);
        checks.due("type into a text that is empty again", solver.type(0x20202020, 4), true);
        checks.due("command() of 4 spaces", solver.command(), -5);
    }

    private static void aRefusedCallChangesNothing(Checks checks) {
        TermSolver solver = new TermSolver();
        Checks.type(solver, "(pu");
        checks.due("type with a bad last byte", solver.type(0x7368297f, 4), false);
        checks.due("type with a bad first byte", solver.type(0x1f736829, 4), false);
        checks.due("type of no bytes", solver.type(0x29, 0), false);
        Checks.type(solver, "sh)");
        checks.due("command() after refused calls", solver.command(), 1);
    }

    private static void typingKeepsWhatIsKept(Checks checks) {
        TermSolver solver = checks.after("(declare-const a (_ BitVec 2))", "(assert (= a #b10))");
        checks.due("check()", solver.check(), 1);
        Checks.type(solver, "(pop)");
        checks.due("value(0) with something typed", solver.value(0), 2);
        checks.due("check() with something typed", solver.check(), 1);
        checks.due("command() of what was typed before", solver.command(), -1000);
    }

    /** A type that is refused for being too long leaves room for a shorter one. */
    private static void eachLengthNearTheLimit(Checks checks) {
        for (int size = 110; size <= 120; size++) {
            for (int n = 1; n <= 4; n++) {
                TermSolver solver = new TermSolver();
                Checks.type(solver, " ".repeat(size));
                boolean fits = size + n <= 120;
                checks.due("type of " + n + " behind " + size, solver.type(0x20202020, n), fits);
                for (int more = fits ? size + n : size; more < 120; more++) {
                    checks.due("type of one behind " + more, solver.type(0x20, 1), true);
                }
                checks.due("type of one behind 120", solver.type(0x20, 1), false);
                checks.due("command()", solver.command(), -121);
                checks.due("type when nothing is typed", solver.type(0x28707573, 4), true);
                checks.due("type when four are typed", solver.type(0x6829, 2), true);
                checks.due("command()", solver.command(), 1);
            }
        }
        String longest = "(assert" + " ".repeat(108) + "true)";
        checks.dueCommand(new TermSolver(), longest, 1);
        checks.dueCommand(new TermSolver(), longest + ")", 1); // the last bracket was refused
    }

    private static void theHighestByteIsTheFirst(Checks checks) {
        String text = "(push)";
        for (int n = 1; n <= 4; n++) {
            TermSolver solver = new TermSolver();
            for (int from = 0; from < text.length(); from += n) {
                int size = Math.min(n, text.length() - from);
                int word = 0xffffffff;
                for (int i = from; i < from + size; i++) {
                    word = word << 8 | text.charAt(i);
                }
                checks.due("type under bytes 255", solver.type(word, size), true);
            }
            checks.due("command() typed by " + n, solver.command(), 1);
        }
    }
}
