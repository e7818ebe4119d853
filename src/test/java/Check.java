import java.util.ArrayList;
import java.util.List;

/** What the tests share: putting texts into an object and telling the answers that are not due. */
final class Check {
    private static final String[] OPERATIONS = {
        "LIT", "LOD", "STO", "LDX", "STX", "CAL", "INT", "JMP", "JPC", "OPR", "?", "CHK"};

    private final List<String> sentences = new ArrayList<>();
    private String sentence = "";
    private int answers = 0;
    private int wrong = 0;

    /** Runs the test of a sentence of the document; what is wrong is told with the sentence. */
    void sentence(String words, Runnable test) {
        sentences.add(words);
        sentence = "\"" + words + "\": ";
        int before = answers;
        try {
            test.run();
        } catch (RuntimeException e) {
            tell("the test threw " + e);
        }
        if (answers == before) {
            tell("the test asked for no answer");
        }
        sentence = "";
    }

    /** The sentences that have been tested. */
    List<String> sentences() {
        return sentences;
    }

    void tell(String fault) {
        wrong++;
        System.out.println(sentence + fault);
    }

    void due(String what, long want, long got) {
        answers++;
        if (got != want) {
            tell(what + " answered " + got + ", due is " + want);
        }
    }

    void due(String what, boolean want, boolean got) {
        due(what, want ? 1 : 0, got ? 1 : 0);
    }

    void due(String what, String want, String got) {
        answers++;
        if (!want.equals(got)) {
            tell(what + " answered\n  " + got + "\ndue is\n  " + want);
        }
    }

    /** Ends a test: with exit code 1 if an answer was wrong. */
    void finish() {
        System.out.println(answers + " answers, " + wrong + " wrong");
        if (wrong != 0 || answers == 0) {
            System.exit(1);
        }
    }

    /** Up to eight characters as the argument of write. */
    static long packed(String characters) {
        long w = 0;
        for (int i = 0; i < characters.length(); i++) {
            w = w << 8 | characters.charAt(i);
        }
        return w;
    }

    static void put(NestPascal x, String text) {
        for (int i = 0; i < text.length(); i += 8) {
            String part = text.substring(i, Math.min(i + 8, text.length()));
            if (!x.write(packed(part))) {
                throw new IllegalStateException("no room for " + text);
            }
        }
    }

    static NestPascal compiled(String text) {
        NestPascal x = new NestPascal();
        put(x, text);
        x.compile();
        return x;
    }

    static NestPascal started(String text) {
        NestPascal x = compiled(text);
        x.start();
        return x;
    }

    static boolean compileThrows(NestPascal x) {
        try {
            x.compile();
            return false;
        } catch (IllegalArgumentException e) {
            return true;
        }
    }

    static boolean runThrows(NestPascal x, int n) {
        try {
            x.run(n);
            return false;
        } catch (IllegalArgumentException e) {
            return true;
        }
    }

    /** The code as "JMP 0 1, INT 0 3, ...". */
    static String listing(NestPascal x) {
        StringBuilder all = new StringBuilder();
        int size = x.code(-1, 0);
        for (int k = 0; k < size; k++) {
            all.append(k == 0 ? "" : ", ").append(OPERATIONS[x.code(k, 0)]);
            all.append(' ').append(x.code(k, 1)).append(' ').append(x.code(k, 2));
        }
        return all.toString();
    }

    /** about(0) to about(5), with blanks between. */
    static String facts(NestPascal x) {
        StringBuilder all = new StringBuilder();
        for (int what = 0; what <= 5; what++) {
            all.append(what == 0 ? "" : " ").append(x.about(what));
        }
        return all.toString();
    }

    /** Cells first to last, with blanks between. */
    static String cells(NestPascal x, int first, int last) {
        StringBuilder all = new StringBuilder();
        for (int k = first; k <= last; k++) {
            all.append(k == first ? "" : " ").append(x.cell(k));
        }
        return all.toString();
    }

    /** Runs till the machine ends, at most some thousand steps, and says how many it took. */
    static int runOut(NestPascal x) {
        int steps = 0;
        for (int i = 0; i < 20; i++) {
            steps += x.run(200);
        }
        return steps;
    }

    /** What was written, up to the latest eight, the oldest first. */
    static String output(NestPascal x) {
        StringBuilder all = new StringBuilder();
        for (int k = Math.min(x.about(5), 8) - 1; k >= 0; k--) {
            all.append(x.written(k)).append(k == 0 ? "" : " ");
        }
        return all.toString();
    }

    /** What a program that ends well writes. */
    void writes(String text, String want) {
        NestPascal x = started(text);
        runOut(x);
        due("the state behind " + text, 2, x.about(0));
        due("the output of " + text, want, output(x));
    }

    /** A text with a stroke in front of the token that is wrong. */
    void error(int want, String marked) {
        int place = marked.indexOf('|');
        errorAt(want, place, marked.substring(0, place) + marked.substring(place + 1));
    }

    void errorAt(int want, int place, String text) {
        errorAt(new NestPascal(), want, place, text);
    }

    void errorAt(NestPascal x, int want, int place, String text) {
        put(x, text);
        due("whether compile throws for " + text, true, compileThrows(x));
        due("error(0) of " + text, want, x.error(0));
        due("error(1) of " + text, place, x.error(1));
    }

    /** The code that a text brings, and that compile counts it. */
    void made(String text, String want) {
        NestPascal x = new NestPascal();
        put(x, text);
        int size = x.compile();
        due("the code of " + text, want, listing(x));
        due("the size of " + text, want.split(", ").length, size);
    }

    /** A program whose variables leave so many of the 200 cells free; x is its first variable. */
    static String leavingFree(int cells, String rest) {
        int last = 200 - 3 - 1 - 5 * 30 - cells;
        return "var x;a array30;b array30;c array30;d array30;e array30;"
                + (last > 30 ? "h array30;i array" + (last - 30) : "h array" + last) + ";" + rest;
    }

    /** A program that runs, the next instruction of which is the one at a place for the first time. */
    static NestPascal before(String text, int instruction) {
        NestPascal x = started(text);
        for (int i = 0; i < 150 && x.about(1) != instruction; i++) {
            x.run(1);
        }
        return x;
    }

    /** What about answers when a program has run till it ends. */
    void ends(String text, String want) {
        NestPascal x = started(text);
        runOut(x);
        due("about behind " + text, want, facts(x));
    }

    /** A text without an error. */
    void fine(String text) {
        fine(new NestPascal(), text);
    }

    void fine(NestPascal x, String text) {
        put(x, text);
        due("whether compile throws for " + text, false, compileThrows(x));
        due("error(0) of " + text, NestPascal.NONE, x.error(0));
    }
}
