/** Promises 3 and 5: compile and the code that it makes. */
public final class CodeTest {
    private static final Check CHECK = new Check();

    public static void main(String[] args) {
        blocks();
        variablesAndExpressions();
        arrays();
        jumps();
        calls();
        meaningOfNames();
        answersOfCode();
        whatCompileChanges();
        fullText();
        CHECK.finish();
    }

    private static void blocks() {
        CHECK.made("begin end.", "JMP 0 1, INT 0 3, OPR 0 0");
        CHECK.made("begin begin end;; end.", "JMP 0 1, INT 0 3, OPR 0 0");
        CHECK.made("var a;b array 30;c;begin end.", "JMP 0 1, INT 0 35, OPR 0 0");
        CHECK.made("proc f;begin end;proc g(x,y);var z;begin end;begin end.",
                "JMP 0 7, JMP 0 2, INT 0 3, OPR 0 0, JMP 0 5, INT 0 4, OPR 2 0, INT 0 3, OPR 0 0");
        CHECK.made("proc f;proc g(x,y,z);begin end;begin end;begin end.",
                "JMP 0 7, JMP 0 5, JMP 0 3, INT 0 3, OPR 3 0, INT 0 3, OPR 0 0, INT 0 3, OPR 0 0");
    }

    private static void variablesAndExpressions() {
        CHECK.made("var a;b;begin b:=a end.", "JMP 0 1, INT 0 5, LOD 0 3, STO 0 4, OPR 0 0");
        CHECK.made("begin write 0;write 9999;write 0070 end.",
                "JMP 0 1, INT 0 3, LIT 0 0, OPR 0 10, LIT 0 9999, OPR 0 10, LIT 0 70, OPR 0 10, OPR 0 0");
        CHECK.made("begin write 1+2*3-4/5 end.",
                "JMP 0 1, INT 0 3, LIT 0 1, LIT 0 2, LIT 0 3, OPR 0 4, OPR 0 2, LIT 0 4, LIT 0 5, "
                + "OPR 0 5, OPR 0 3, OPR 0 10, OPR 0 0");
        CHECK.made("begin write -1*2+3 end.",
                "JMP 0 1, INT 0 3, LIT 0 1, LIT 0 2, OPR 0 4, OPR 0 1, LIT 0 3, OPR 0 2, OPR 0 10, OPR 0 0");
        CHECK.made("begin write 1-(-2-3) end.",
                "JMP 0 1, INT 0 3, LIT 0 1, LIT 0 2, OPR 0 1, LIT 0 3, OPR 0 3, OPR 0 3, OPR 0 10, OPR 0 0");
    }

    private static void arrays() {
        CHECK.made("var x;a array 5;b array 2;begin b[1]:=a[x] end.",
                "JMP 0 1, INT 0 11, LIT 0 1, CHK 0 2, LOD 0 3, CHK 0 5, LDX 0 4, STX 0 9, OPR 0 0");
        CHECK.made("var a array 5;proc f;begin a[a[1]]:=2 end;begin end.",
                "JMP 0 10, JMP 0 2, INT 0 3, LIT 0 1, CHK 0 5, LDX 1 3, CHK 0 5, LIT 0 2, STX 1 3, "
                + "OPR 0 0, INT 0 8, OPR 0 0");
    }

    private static void jumps() {
        CHECK.made("begin if 1=2 then write 3 end.",
                "JMP 0 1, INT 0 3, LIT 0 1, LIT 0 2, OPR 0 6, JPC 0 8, LIT 0 3, OPR 0 10, OPR 0 0");
        CHECK.made("begin if 1#2 then write 3 else write 4 end.",
                "JMP 0 1, INT 0 3, LIT 0 1, LIT 0 2, OPR 0 7, JPC 0 9, LIT 0 3, OPR 0 10, JMP 0 11, "
                + "LIT 0 4, OPR 0 10, OPR 0 0");
        CHECK.made("begin if 1<2 then if 3>4 then else write 5 end.",
                "JMP 0 1, INT 0 3, LIT 0 1, LIT 0 2, OPR 0 8, JPC 0 13, LIT 0 3, LIT 0 4, OPR 0 9, "
                + "JPC 0 11, JMP 0 13, LIT 0 5, OPR 0 10, OPR 0 0");
        CHECK.made("begin if 1<2 then else end.",
                "JMP 0 1, INT 0 3, LIT 0 1, LIT 0 2, OPR 0 8, JPC 0 7, JMP 0 7, OPR 0 0");
        CHECK.made("begin while 1<2 do write 3 end.",
                "JMP 0 1, INT 0 3, LIT 0 1, LIT 0 2, OPR 0 8, JPC 0 9, LIT 0 3, OPR 0 10, JMP 0 2, OPR 0 0");
    }

    private static void calls() {
        CHECK.made("proc f(a,b,c);begin f(c,b,a) end;begin f(1,2,3) end.",
                "JMP 0 8, JMP 0 2, INT 0 3, LOD 0 -1, LOD 0 -2, LOD 0 -3, CAL 1 1, OPR 3 0, "
                + "INT 0 3, LIT 0 1, LIT 0 2, LIT 0 3, CAL 0 1, OPR 0 0");
        CHECK.made("proc f(a);begin a:=a+1 end;begin f(-1) end.",
                "JMP 0 8, JMP 0 2, INT 0 3, LOD 0 -1, LIT 0 1, OPR 0 2, STO 0 -1, OPR 1 0, "
                + "INT 0 3, LIT 0 1, OPR 0 1, CAL 0 1, OPR 0 0");
        CHECK.made("var v;proc a;proc b;proc c;proc d;begin v:=v;a;b;c;d end;begin end;begin end;begin end;begin end.",
                "JMP 0 19, JMP 0 17, JMP 0 15, JMP 0 13, JMP 0 5, INT 0 3, LOD 4 3, STO 4 3, CAL 4 1, "
                + "CAL 3 2, CAL 2 3, CAL 1 4, OPR 0 0, INT 0 3, OPR 0 0, INT 0 3, OPR 0 0, "
                + "INT 0 3, OPR 0 0, INT 0 4, OPR 0 0");
    }

    private static void meaningOfNames() {
        CHECK.made("var x;y;proc f(x);var y;begin x:=y end;begin x:=y end.",
                "JMP 0 6, JMP 0 2, INT 0 4, LOD 0 3, STO 0 -1, OPR 1 0, INT 0 5, LOD 0 4, STO 0 3, OPR 0 0");
        // A later procedure of the same name is not yet declared where the name stands.
        CHECK.made("proc f;begin end;proc g;proc h;begin f end;proc f;begin f end;begin f end;begin end.",
                "JMP 0 16, JMP 0 2, INT 0 3, OPR 0 0, JMP 0 13, JMP 0 6, INT 0 3, CAL 2 1, OPR 0 0, "
                + "JMP 0 10, INT 0 3, CAL 1 9, OPR 0 0, INT 0 3, CAL 0 9, OPR 0 0, INT 0 3, OPR 0 0");
    }

    private static void answersOfCode() {
        NestPascal x = Check.compiled("proc f(a);begin f(a) end;begin end.");
        int size = x.code(-1, 0);
        CHECK.due("code(-1, 0)", 8, size);
        CHECK.due("code(-1, 7)", 8, x.code(-1, 7));
        CHECK.due("code(-1, -1)", 8, x.code(-1, -1));
        CHECK.due("code(4, 0)", 5, x.code(4, 0));
        CHECK.due("code(4, 1)", 1, x.code(4, 1));
        CHECK.due("code(4, 2)", 1, x.code(4, 2));
        CHECK.due("code(3, 2)", -1, x.code(3, 2));
        CHECK.due("code(4, 3)", 0, x.code(4, 3));
        CHECK.due("code(4, -1)", 0, x.code(4, -1));
        int[] others = {-2, size, 179, 180, 100000, Integer.MIN_VALUE, Integer.MAX_VALUE};
        for (int k : others) {
            for (int what = -1; what <= 3; what++) {
                CHECK.due("code(" + k + ", " + what + ")", 0, x.code(k, what));
            }
        }
    }

    private static void whatCompileChanges() {
        NestPascal x = Check.started("var v;begin v:=7;write v;while 1=1 do end.");
        x.run(50);
        String code = Check.listing(x);
        String facts = Check.facts(x);
        Check.put(x, "begin y end.");
        CHECK.due("whether compile throws", true, Check.compileThrows(x));
        CHECK.due("the program behind an error", code, Check.listing(x));
        CHECK.due("the machine behind an error", facts, Check.facts(x));
        CHECK.due("written(0) behind an error", 7, x.written(0));
        CHECK.due("variable(0, 3) behind an error", 7, x.variable(0, 3));
        CHECK.due("run(9) behind an error", 9, x.run(9));
        CHECK.due("whether compile throws", true, Check.compileThrows(x));
        CHECK.due("the place where the text was emptied by an error", 0, x.error(1));
        Check.put(x, "begin end.");
        CHECK.due("compile()", 3, x.compile());
        CHECK.due("the program behind compile", "JMP 0 1, INT 0 3, OPR 0 0", Check.listing(x));
        CHECK.due("code(3, 0) of a shorter program", 0, x.code(3, 0));
        CHECK.due("the machine behind compile", "0 0 0 -1 0 0", Check.facts(x));
        CHECK.due("cells behind compile", "0 0 0 0", Check.cells(x, 0, 3));
        CHECK.due("written(0) behind compile", 0, x.written(0));
        CHECK.due("variable(0, 3) behind compile", 0, x.variable(0, 3));
        CHECK.due("run(9) behind compile", 0, x.run(9));
        CHECK.due("whether compile throws", true, Check.compileThrows(x));
        CHECK.due("the place where the text was emptied", 0, x.error(1));
        CHECK.due("start() with the program before", true, x.start());
    }

    private static void fullText() {
        String front = "begin write 1";
        String back = " end.";
        String text = front + "+1".repeat((180 - front.length() - back.length()) / 2) + back;
        CHECK.due("length", 180, text.length());
        NestPascal x = Check.started(text);
        CHECK.due("size", 2 + 1 + 2 * 81 + 1 + 1, x.code(-1, 0));
        Check.runOut(x);
        CHECK.due("written(0)", 82, x.written(0));
        StringBuilder names = new StringBuilder("var ");
        for (char c = 'a'; c <= 'z'; c++) {
            names.append(c).append(';');
        }
        for (char c = 'a'; c <= 'z'; c++) {
            names.append(c).append("a;");
        }
        CHECK.fine(names + "begin z:=za end.");
    }
}
