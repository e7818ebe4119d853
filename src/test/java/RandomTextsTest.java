import java.util.Random;

/** Texts of random tokens: whatever they are, each call answers within its bounds and throws no more than it may. */
public final class RandomTextsTest {
    private static final Check CHECK = new Check();
    private static final String[] TOKENS = {
        "var", "proc", "array", "begin", "end", "if", "then", "else", "while", "do", "write", "+", "-", "*", "/",
        "=", "#", "<", ">", "(", ")", "[", "]", ",", ";", ".", ":=", "x", "a", "f", "g", "1", "0", "9999", "31",
        "abcdefg", "12345", "?", ":", "Z"};
    private static final String[] FRONTS = {
        "", "var x;", "var x;a array 3;begin ", "var x;a array 3;proc f;begin end;proc g(x);begin ",
        "var x;a array 3;proc f;begin x:=x+1;f end;proc g(x);begin end;begin f;"};
    private static final String[] PARTS = {
        "x:=1;", "a[x]:=x+1;", "f;", "g(1);", "write x;", "if x<3 then ", "else ", "while x<9 do ", "begin ", "end;",
        "x:=x*9999+x;", "write -x/a[1];", "end.", "write(", "x)", "((((((", "a[a[x]]", "begin begin begin "};

    public static void main(String[] args) {
        Random random = new Random(20261115);
        int compiled = 0;
        for (int object = 0; object < 2000; object++) {
            NestPascal x = new NestPascal();
            // Two texts stay below the 512 calls for which an object is used.
            for (int i = 0; i < 2; i++) {
                compiled += tryText(x, text(random), random) ? 1 : 0;
            }
        }
        CHECK.due("whether some texts had no error", true, compiled > 20);
        CHECK.finish();
    }

    private static String text(Random random) {
        StringBuilder text = new StringBuilder(FRONTS[random.nextInt(FRONTS.length)]);
        boolean parts = random.nextBoolean();
        int count = random.nextInt(12);
        for (int i = 0; i < count; i++) {
            text.append(parts ? PARTS[random.nextInt(PARTS.length)] : TOKENS[random.nextInt(TOKENS.length)] + " ");
        }
        if (random.nextBoolean()) {
            text.append(" end.");
        }
        return text.length() > 180 ? text.substring(0, 180) : text.toString();
    }

    /** What can be seen of program and machine by some fifty calls. */
    private static String shown(NestPascal x) {
        int size = x.code(-1, 0);
        StringBuilder all = new StringBuilder(Check.facts(x)).append(' ').append(size);
        for (int k = 0; k < Math.min(size, 40); k++) {
            all.append(' ').append(x.code(k, 2));
        }
        return all.toString();
    }

    private static boolean tryText(NestPascal x, String text, Random random) {
        Check.put(x, text);
        String before = shown(x);
        boolean thrown = Check.compileThrows(x);
        if (thrown) {
            CHECK.due("whether error(0) is one, of " + text, true, x.error(0) >= 1 && x.error(0) <= 6);
            CHECK.due("whether error(1) is a place, of " + text, true, x.error(1) >= 0 && x.error(1) <= text.length());
            CHECK.due("program and machine behind the error of " + text, before, shown(x));
        } else {
            CHECK.due("error(0) of " + text, NestPascal.NONE, x.error(0));
            CHECK.due("state behind " + text, 0, x.about(0));
        }
        x.start();
        int n = random.nextInt(201);
        int steps = x.run(n);
        CHECK.due("whether all steps were done or it ended", true, steps == n || x.about(0) != 1);
        CHECK.due("whether the top is one", true, x.about(3) >= -1 && x.about(3) <= 199);
        for (int i = -2; i < 6; i++) {
            x.cell(x.about(3) + i);
            x.variable(i, random.nextInt(400) - 200);
            x.written(i);
        }
        return !thrown;
    }
}
