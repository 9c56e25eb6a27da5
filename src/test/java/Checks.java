/** Counts answers that are not the ones that are due, and makes a TermSolver's calls short to write. */
final class Checks {
    private int wrong = 0;
    private int made = 0;

    /** Types a whole text, up to four characters a call. */
    static boolean type(TermSolver solver, String text) {
        boolean all = true;
        for (int from = 0; from < text.length(); from += 4) {
            int to = Math.min(from + 4, text.length());
            int word = 0;
            for (int i = from; i < to; i++) {
                word = word << 8 | text.charAt(i);
            }
            all &= solver.type(word, to - from);
        }
        return all;
    }

    static int command(TermSolver solver, String text) {
        type(solver, text);
        return solver.command();
    }

    /** A new object on which all these commands were done. */
    TermSolver after(String... commands) {
        TermSolver solver = new TermSolver();
        for (String text : commands) {
            int answer = command(solver, text);
            due("set up by " + text, answer >= 0, true);
        }
        return solver;
    }

    void dueCommand(TermSolver solver, String text, int want) {
        due("command " + text, command(solver, text), want);
    }

    void due(String call, int got, int want) {
        made++;
        if (got != want) {
            wrong++;
            System.out.println(call + " answered " + got + ", due is " + want);
        }
    }

    void due(String call, boolean got, boolean want) {
        due(call, got ? 1 : 0, want ? 1 : 0);
    }

    void end(String test) {
        System.out.println(test + ": " + made + " answers, " + wrong + " wrong");
        if (wrong > 0) {
            System.exit(1);
        }
    }
}
