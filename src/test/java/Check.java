/** What the tests share: putting texts into an object and telling the answers that are not due. */
final class Check {
    private static final String[] OPERATIONS = {
        "LIT", "LOD", "STO", "LDX", "STX", "CAL", "INT", "JMP", "JPC", "OPR", "?", "CHK"};

    private int answers = 0;
    private int wrong = 0;

    void due(String what, long want, long got) {
        answers++;
        if (got != want) {
            wrong++;
            System.out.println(what + " answered " + got + ", due is " + want);
        }
    }

    void due(String what, boolean want, boolean got) {
        due(what, want ? 1 : 0, got ? 1 : 0);
    }

    void due(String what, String want, String got) {
        answers++;
        if (!want.equals(got)) {
            wrong++;
            System.out.println(what + " answered\n  " + got + "\ndue is\n  " + want);
        }
    }

    /** Ends a test: with exit code 1 if an answer was wrong. */
    void finish() {
        System.out.println(answers + " answers, " + wrong + " wrong");
        if (wrong != 0 || answers == 0) {
            System.exit(1);
        }
    }

    /** Up to eight characters as the argument of write. */
    static long packed(String characters) {
        long w = 0;
        for (int i = 0; i < characters.length(); i++) {
            w = w << 8 | characters.charAt(i);
        }
        return w;
    }

    static void put(NestPascal x, String text) {
        for (int i = 0; i < text.length(); i += 8) {
            String part = text.substring(i, Math.min(i + 8, text.length()));
            if (!x.write(packed(part))) {
                throw new IllegalStateException("no room for " + text);
            }
        }
    }

    static NestPascal compiled(String text) {
        NestPascal x = new NestPascal();
        put(x, text);
        x.compile();
        return x;
    }

    static NestPascal started(String text) {
        NestPascal x = compiled(text);
        x.start();
        return x;
    }

    static boolean compileThrows(NestPascal x) {
        try {
            x.compile();
            return false;
        } catch (IllegalArgumentException e) {
            return true;
        }
    }

    static boolean runThrows(NestPascal x, int n) {
        try {
            x.run(n);
            return false;
        } catch (IllegalArgumentException e) {
            return true;
        }
    }

    /** The code as "JMP 0 1, INT 0 3, ...". */
    static String listing(NestPascal x) {
        StringBuilder all = new StringBuilder();
        for (int k = 0; k < x.code(-1, 0); k++) {
            all.append(k == 0 ? "" : ", ").append(OPERATIONS[x.code(k, 0)]);
            all.append(' ').append(x.code(k, 1)).append(' ').append(x.code(k, 2));
        }
        return all.toString();
    }

    /** about(0) to about(5), with blanks between. */
    static String facts(NestPascal x) {
        StringBuilder all = new StringBuilder();
        for (int what = 0; what <= 5; what++) {
            all.append(what == 0 ? "" : " ").append(x.about(what));
        }
        return all.toString();
    }

    /** Cells first to last, with blanks between. */
    static String cells(NestPascal x, int first, int last) {
        StringBuilder all = new StringBuilder();
        for (int k = first; k <= last; k++) {
            all.append(k == first ? "" : " ").append(x.cell(k));
        }
        return all.toString();
    }

    /** Runs till the machine ends, at most some thousand steps, and says how many it took. */
    static int runOut(NestPascal x) {
        int steps = 0;
        for (int i = 0; i < 20; i++) {
            steps += x.run(200);
        }
        return steps;
    }

    /** What was written, up to the latest eight, the oldest first. */
    static String output(NestPascal x) {
        StringBuilder all = new StringBuilder();
        for (int k = Math.min(x.about(5), 8) - 1; k >= 0; k--) {
            all.append(x.written(k)).append(k == 0 ? "" : " ");
        }
        return all.toString();
    }

    /** What a program that ends well writes. */
    void writes(String text, String want) {
        NestPascal x = started(text);
        runOut(x);
        due("the state behind " + text, 2, x.about(0));
        due("the output of " + text, want, output(x));
    }

    /** A text with a stroke in front of the token that is wrong. */
    void error(int want, String marked) {
        int place = marked.indexOf('|');
        String text = marked.substring(0, place) + marked.substring(place + 1);
        NestPascal x = new NestPascal();
        put(x, text);
        due("whether compile throws for " + marked, true, compileThrows(x));
        due("error(0) of " + marked, want, x.error(0));
        due("error(1) of " + marked, place, x.error(1));
    }

    /** A text without an error. */
    void fine(String text) {
        NestPascal x = new NestPascal();
        put(x, text);
        due("whether compile throws for " + text, false, compileThrows(x));
        due("error(0) of " + text, NestPascal.NONE, x.error(0));
    }
}
