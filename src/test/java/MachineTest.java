/** Promises 6 to 11: start, run, about, cell, written, variable. */
public final class MachineTest {
    private static final Check CHECK = new Check();

    public static void main(String[] args) {
        startAnew();
        runAndItsBounds();
        stepByStep();
        cellsBetweenCallAndInt();
        cellsThatComeOnAreZero();
        numbersThatWereWritten();
        variables();
        variablesWhenNotRunning();
        fullByPutOn();
        fullByCall();
        fullByInt();
        trapped();
        arithmetic();
        programs();
        CHECK.finish();
    }

    private static void startAnew() {
        NestPascal x = Check.started("var v;begin write v;v:=5;write v end.");
        CHECK.due("about at the beginning", "1 0 0 -1 1 0", Check.facts(x));
        x.run(6);
        CHECK.due("about on the way", "1 6 0 3 1 1", Check.facts(x));
        CHECK.due("cell(3) on the way", 5, x.cell(3));
        CHECK.due("start() while running", true, x.start());
        CHECK.due("about at the beginning", "1 0 0 -1 1 0", Check.facts(x));
        CHECK.due("cell(3) at the beginning", 0, x.cell(3));
        CHECK.due("written(0) at the beginning", 0, x.written(0));
        Check.runOut(x);
        CHECK.due("about when done", "2 0 0 -1 0 2", Check.facts(x));
        CHECK.due("the output", "0 5", Check.output(x));
        CHECK.due("cells when done", "0 0 0 0 0", Check.cells(x, 0, 4));
        CHECK.due("start() when done", true, x.start());
        Check.runOut(x);
        CHECK.due("the output once more", "0 5", Check.output(x));
        CHECK.due("about(5) once more", 2, x.about(5));
    }

    private static void runAndItsBounds() {
        NestPascal x = Check.compiled("begin end.");
        CHECK.due("run(3) when idle", 0, x.run(3));
        x.start();
        int[] wrong = {-1, 201, Integer.MIN_VALUE, Integer.MAX_VALUE};
        for (int n : wrong) {
            CHECK.due("whether run(" + n + ") throws", true, Check.runThrows(x, n));
        }
        CHECK.due("about behind them", "1 0 0 -1 1 0", Check.facts(x));
        CHECK.due("run(0)", 0, x.run(0));
        CHECK.due("run(2)", 2, x.run(2));
        CHECK.due("about(0)", 1, x.about(0));
        CHECK.due("run(200)", 1, x.run(200));
        CHECK.due("about(0)", 2, x.about(0));
        CHECK.due("run(200) when done", 0, x.run(200));
        CHECK.due("whether run(201) throws when done", true, Check.runThrows(x, 201));
        NestPascal endless = Check.started("begin while 1=1 do end.");
        CHECK.due("run(200) of one without end", 200, endless.run(200));
        CHECK.due("run(200) of it again", 200, endless.run(200));
        CHECK.due("about(0) of it", 1, endless.about(0));
        int[] none = {-1, 6, Integer.MIN_VALUE, Integer.MAX_VALUE};
        for (int what : none) {
            CHECK.due("about(" + what + ")", NestPascal.NONE, endless.about(what));
        }
    }

    private static void stepByStep() {
        // 0 JMP 8, 1 JMP 2, 2 INT 4, 3 LOD 0 -1, 4 LOD 1 3, 5 OPR 2, 6 STO 0 3, 7 OPR 1 0,
        // 8 INT 4, 9 LIT 7, 10 STO 0 3, 11 LIT 9, 12 CAL 0 1, 13 OPR 0 0
        NestPascal x = Check.started("var v;proc f(p);var w;begin w:=p+v end;begin v:=7;f(9) end.");
        String[] want = {
            "1 8 0 -1 1 0", "1 9 0 3 1 0", "1 10 0 4 1 0", "1 11 0 3 1 0", "1 12 0 4 1 0",
            "1 1 5 4 2 0", "1 2 5 4 2 0", "1 3 5 8 2 0", "1 4 5 9 2 0", "1 5 5 10 2 0",
            "1 6 5 9 2 0", "1 7 5 8 2 0", "1 13 0 3 1 0", "2 0 0 -1 0 0"};
        String[] cells = {
            "0 0 0 0", "0 0 0 0", "0 0 0 0 7", "0 0 0 7 0", "0 0 0 7 9",
            "0 0 0 7 9 0 0 13 0", "0 0 0 7 9 0 0 13 0", "0 0 0 7 9 0 0 13 0",
            "0 0 0 7 9 0 0 13 0 9", "0 0 0 7 9 0 0 13 0 9 7", "0 0 0 7 9 0 0 13 0 16 0",
            "0 0 0 7 9 0 0 13 16 0", "0 0 0 7 0 0 0 0 0", "0 0 0 0 0"};
        for (int i = 0; i < want.length; i++) {
            CHECK.due("run(1)", 1, x.run(1));
            CHECK.due("about behind step " + i, want[i], Check.facts(x));
            int last = cells[i].split(" ").length - 1;
            CHECK.due("cells behind step " + i, cells[i], Check.cells(x, 0, last));
        }
        CHECK.due("run(1) when done", 0, x.run(1));
    }

    private static void cellsBetweenCallAndInt() {
        NestPascal x = Check.started("var v;proc f;proc g;begin f end;begin g end;begin f end.");
        x.run(3);
        CHECK.due("about behind CAL", "1 1 4 3 2 0", Check.facts(x));
        CHECK.due("cells behind CAL", "0 0 0 0 0 0 11 0", Check.cells(x, 0, 7));
        x.run(3);
        CHECK.due("about behind the second CAL", "1 2 7 6 3 0", Check.facts(x));
        CHECK.due("cells behind the second CAL", "0 0 11 4 4 8 0", Check.cells(x, 4, 10));
        int[] none = {-1, 10, 199, 200, Integer.MIN_VALUE, Integer.MAX_VALUE};
        for (int k : none) {
            CHECK.due("cell(" + k + ")", 0, x.cell(k));
        }
    }

    private static void cellsThatComeOnAreZero() {
        // The frame of g lies where that of f left its values.
        CHECK.writes("proc f;var a;b;begin a:=8;b:=9 end;"
                + "proc g;var a;b;begin write a;write b end;begin f;g end.", "0 0");
    }

    private static void numbersThatWereWritten() {
        NestPascal x = Check.started("var i;begin while i<20 do begin i:=i+1;write i*i end end.");
        for (int i = 0; i < 3; i++) {
            x.run(15);
        }
        CHECK.due("about(5)", 3, x.about(5));
        CHECK.due("written(0)", 9, x.written(0));
        CHECK.due("written(2)", 1, x.written(2));
        CHECK.due("written(3)", 0, x.written(3));
        Check.runOut(x);
        CHECK.due("about(5)", 20, x.about(5));
        for (int k = 0; k < 8; k++) {
            CHECK.due("written(" + k + ")", (20 - k) * (20 - k), x.written(k));
        }
        int[] none = {-1, 8, 9, 19, Integer.MIN_VALUE, Integer.MAX_VALUE};
        for (int k : none) {
            CHECK.due("written(" + k + ")", 0, x.written(k));
        }
    }

    private static void variables() {
        String text = "var x;proc f(p,q);var y;proc g(r);begin while 1=1 do end;begin y:=4;g(5) end;"
                + "begin x:=1;f(2,3) end.";
        NestPascal x = Check.started(text);
        CHECK.due("variable(0, 3) before INT", 0, x.variable(0, 3));
        x.run(4);
        CHECK.due("variable(0, 3) of the program", 1, x.variable(0, 3));
        CHECK.due("variable(0, 4) beyond the top", 0, x.variable(0, 4));
        x.run(3);
        CHECK.due("about(1) behind CAL", 1, x.about(1));
        CHECK.due("variable(0, -2) behind CAL", 2, x.variable(0, -2));
        CHECK.due("variable(0, -1) behind CAL", 3, x.variable(0, -1));
        CHECK.due("variable(0, 2) beyond the top", 0, x.variable(0, 2));
        CHECK.due("variable(1, 3) behind CAL", 1, x.variable(1, 3));
        x.run(50);
        CHECK.due("about(4)", 3, x.about(4));
        CHECK.due("r", 5, x.variable(0, -1));
        CHECK.due("p", 2, x.variable(1, -2));
        CHECK.due("q", 3, x.variable(1, -1));
        CHECK.due("y", 4, x.variable(1, 3));
        CHECK.due("x", 1, x.variable(2, 3));
        CHECK.due("variable(2, -1)", 0, x.variable(2, -1));
        CHECK.due("variable(2, 4), p from the program's frame", 2, x.variable(2, 4));
        // The frame at 0 links to itself: no more links lead further.
        CHECK.due("variable(3, 3)", 1, x.variable(3, 3));
        CHECK.due("variable of most links", 1, x.variable(Integer.MAX_VALUE, 3));
        CHECK.due("variable(-1, -1)", 0, x.variable(-1, -1));
        CHECK.due("variable of fewest links", 0, x.variable(Integer.MIN_VALUE, 3));
        CHECK.due("variable at the highest place", 0, x.variable(0, Integer.MAX_VALUE));
        CHECK.due("variable at the lowest place", 0, x.variable(0, Integer.MIN_VALUE));
        CHECK.due("variable(0, 199)", 0, x.variable(0, 199));
    }

    private static void variablesWhenNotRunning() {
        NestPascal x = Check.started("var v;begin v:=3;write 1/0 end.");
        x.run(4);
        CHECK.due("variable(0, 3) when running", 3, x.variable(0, 3));
        x.run(200);
        CHECK.due("about(0)", 5, x.about(0));
        CHECK.due("variable(0, 3) when trapped", 0, x.variable(0, 3));
        CHECK.due("cell(3) when trapped", 3, x.cell(3));
    }

    private static void fullByPutOn() {
        NestPascal enough = Check.started(Check.leavingFree(3, "begin write 1+(2+3) end."));
        Check.runOut(enough);
        CHECK.due("about where it just fits", "2 0 0 -1 0 1", Check.facts(enough));
        CHECK.due("written(0)", 6, enough.written(0));
        NestPascal x = Check.started(Check.leavingFree(2, "begin write 1+(2+3) end."));
        CHECK.due("run(200), full by LIT", 5, x.run(200));
        CHECK.due("about, full by LIT", "3 4 0 199 1 0", Check.facts(x));
        CHECK.due("cells, full by LIT", "0 1 2", Check.cells(x, 197, 199));
        CHECK.due("run(200) when full", 0, x.run(200));
        NestPascal y = Check.started(Check.leavingFree(1, "begin write 1+x end."));
        CHECK.due("run(200), full by LOD", 4, y.run(200));
        CHECK.due("about, full by LOD", "3 3 0 199 1 0", Check.facts(y));
        // LDX takes off before it puts on.
        NestPascal z = Check.started(Check.leavingFree(1, "begin a[0]:=x end."));
        z.run(200);
        CHECK.due("about, an element with one cell free", "3 4 0 199 1 0", Check.facts(z));
        NestPascal w = Check.started(Check.leavingFree(1, "begin write a[0] end."));
        w.run(200);
        CHECK.due("about, LDX at the highest cell", "2 0 0 -1 0 1", Check.facts(w));
    }

    private static void fullByCall() {
        String text = "proc f;begin end;begin f end.";
        NestPascal enough = Check.started(Check.leavingFree(3, text));
        enough.run(200);
        CHECK.due("about where the call just fits", "2 0 0 -1 0 0", Check.facts(enough));
        for (int free = 0; free < 3; free++) {
            NestPascal x = Check.started(Check.leavingFree(free, text));
            CHECK.due("run(200), full by CAL", 3, x.run(200));
            CHECK.due("about, full by CAL", "3 5 0 " + (199 - free) + " 1 0", Check.facts(x));
        }
        NestPascal deep = Check.started("proc f;begin f end;begin f end.");
        CHECK.due("run(200) of calls without end", 198, deep.run(200));
        CHECK.due("about of calls without end", "3 3 195 197 66 0", Check.facts(deep));
        CHECK.due("cells of calls without end", "0 192 4 0 0", Check.cells(deep, 195, 199));
    }

    private static void fullByInt() {
        NestPascal x = Check.started(Check.leavingFree(0, "begin end."));
        x.run(2);
        CHECK.due("about with all cells", "1 2 0 199 1 0", Check.facts(x));
        NestPascal y = Check.started(Check.leavingFree(-1, "begin end."));
        CHECK.due("run(200), full by INT", 2, y.run(200));
        CHECK.due("about, full by INT", "3 1 0 -1 1 0", Check.facts(y));
        NestPascal z = Check.started(Check.leavingFree(3, "proc f;var v;begin end;begin f end."));
        z.run(200);
        CHECK.due("about, full by a procedure's INT", "3 2 197 196 2 0", Check.facts(z));
        CHECK.due("cells, full by a procedure's INT", "0 0 6", Check.cells(z, 197, 199));
        NestPascal four = Check.started(Check.leavingFree(4, "proc f;var v;begin end;begin f end."));
        four.run(200);
        CHECK.due("about(0), where the procedure just fits", 2, four.about(0));
    }

    private static void trapped() {
        NestPascal x = Check.started("var a array 3;begin a[2]:=1;a[3]:=1 end.");
        CHECK.due("run(200), trapped by CHK", 8, x.run(200));
        CHECK.due("about, trapped by CHK", "4 7 0 6 1 0", Check.facts(x));
        CHECK.due("cells, trapped by CHK", "0 0 1 3 0", Check.cells(x, 3, 7));
        CHECK.due("run(200) when trapped", 0, x.run(200));
        NestPascal y = Check.started("var a array 3;begin write a[0];write a[-1] end.");
        y.run(200);
        CHECK.due("about(0) of an index -1", 4, y.about(0));
        CHECK.due("about(5) of an index -1", 1, y.about(5));
        NestPascal z = Check.started("var v;begin write 1;write 7/v end.");
        CHECK.due("run(200), trapped by / 0", 7, z.run(200));
        CHECK.due("about, trapped by / 0", "5 6 0 5 1 1", Check.facts(z));
        CHECK.due("cells, trapped by / 0", "0 7 0 0", Check.cells(z, 3, 6));
        CHECK.due("start() when trapped", true, z.start());
        CHECK.due("about at the beginning", "1 0 0 -1 1 0", Check.facts(z));
    }

    private static void arithmetic() {
        CHECK.writes("begin write 7/2;write (-7)/2;write 7/(-2);write -7/2;write (-7)/(-2);write 0/5 end.",
                "3 -3 -3 -3 3 0");
        CHECK.writes("begin write 10-3-2;write 100/7/2;write 2+3*4;write (2+3)*4;write -2+5;write -2*3-1 end.",
                "5 7 14 20 3 -7");
        CHECK.writes("begin write 9999*9999*9999;write -9999*9999*9999 end.",
                9999 * 9999 * 9999 + " " + -(9999 * 9999 * 9999));
        CHECK.writes("var m;i;begin m:=1;while i<31 do begin m:=m+m;i:=i+1 end;"
                + "write m;write -m;write m/(-1);write m-1;write m-1+1;write m*m end.",
                "-2147483648 -2147483648 -2147483648 2147483647 -2147483648 0");
        relation('=', "0 1 0");
        relation('#', "1 0 1");
        relation('<', "1 0 0");
        relation('>', "0 0 1");
        CHECK.writes("begin if 3>2 then write 1;if -1<0 then write 2;if -1>0 then write 3 end.", "1 2");
    }

    /** What comes of 1 and 2, 2 and 2, 2 and 1. */
    private static void relation(char relation, String want) {
        CHECK.writes("proc f(a,b);begin if a" + relation + "b then write 1 else write 0 end;"
                + "begin f(1,2);f(2,2);f(2,1) end.", want);
    }

    private static void programs() {
        CHECK.writes("var x;proc f(m);begin if m>0 then begin f(m-1);x:=x+m end end;begin f(3);write x end.", "6");
        // The links follow the text, not the calls.
        CHECK.writes("var x;proc p;begin write x end;proc q;var x;begin x:=2;p end;begin x:=1;q end.", "1");
        CHECK.writes("proc f(n);proc g;begin if n>0 then f(n-1);write n end;begin g end;begin f(2) end.", "0 1 2");
        CHECK.writes("var v;proc a;proc b;proc c;proc d;begin v:=v+1;if v<4 then a end;"
                + "begin d end;begin c end;begin b end;begin a;write v end.", "4");
        // Arguments are values: the caller's variable stays.
        CHECK.writes("var x;proc f(a,b,c);begin a:=a+b*c;write a end;begin x:=5;f(x,2,3);write x end.", "11 5");
        CHECK.writes("var a array 5;i;begin while i<5 do begin a[i]:=i*i;i:=i+1 end;write a[a[2]]+a[1] end.", "17");
        CHECK.writes("begin if 1=2 then if 1=1 then write 1 else write 2;if 1=1 then if 1=2 then write 3 else write 4 end.",
                "4");
        CHECK.writes("var a array 3;b array 3;proc f(i);begin a[i]:=i+1;b[2-i]:=a[i] end;"
                + "begin f(0);f(1);f(2);write b[0]*100+b[1]*10+b[2];write a[2] end.", "321 3");
    }
}
