/** The sentences on the grammar, on how deep it goes, and on the levels. */
final class GrammarBoundaries {
    private static final String DECLARED = "var v;a array 9;proc f;begin end;proc g(x);begin end;"
            + "proc h(x,y);begin end;proc i(x,y,z);begin end;begin ";
    /** Begins that are open, so many as may be. */
    private static final String SIX = "begin begin begin begin begin begin ";
    private static final String SIX_ENDS = " end end end end end end";

    private final Check check;

    GrammarBoundaries(Check check) {
        this.check = check;
    }

    void all() {
        check.sentence("PROGRAM: a BLOCK and a period, nothing more.", this::program);
        check.sentence("BLOCK: perhaps var and one or more of: name ; and name array number ;", this::variables);
        check.sentence("(so many cells, 1 .. 30).", this::sizes);
        check.sentence("Then any number of procedures:", this::numberOfProcedures);
        check.sentence("proc name, perhaps ( and 1 to 3 names, PARAMETERS, with , between and ) behind,",
                this::parameters);
        check.sentence("then ; and a block and ;.", this::blocksOfProcedures);
        check.sentence("Then begin STATEMENTS, with ; between, end.", this::statements);
        check.sentence("STATEMENT: nothing;", this::nothing);
        check.sentence("name := EXPRESSION; name [ expression ] := expression;", this::assignments);
        check.sentence("name (a call), or name ( expressions with , between );", this::calls);
        check.sentence("begin statements end;", this::compounds);
        check.sentence("if CONDITION then statement, perhaps else statement (of the innermost if);", this::ifs);
        check.sentence("while condition do statement;", this::whiles);
        check.sentence("write expression.", this::writes);
        check.sentence("CONDITION: expression, one of = # < >, expression.", this::conditions);
        check.sentence("EXPRESSION: perhaps -, TERMS with + - between.", this::expressions);
        check.sentence("Term: FACTORS with * / between.", this::terms);
        check.sentence("Factor: a number, a name, name [ expression ], ( expression ).", this::factors);
        check.sentence("Deep is how many of these are open:", this::openOnly);
        check.sentence("( and [ in expressions", this::deepExpressions);
        check.sentence("and of calls,", this::deepCalls);
        check.sentence("begin (not of blocks),", this::deepBegins);
        check.sentence("if, while (as long as their statements);", this::deepIfsAndWhiles);
        check.sentence("at most 6.", this::deepMixed);
        check.sentence("LEVELS: the program's block 0, a procedure's block one more than the one it stands in,"
                + " at most 4.", this::levels);
    }

    private void program() {
        check.fine("begin end.");
        check.fine("begin end.   ");
        check.error(1, "begin end|");
        check.error(1, "begin end   |");
        check.error(1, "begin end|;");
        check.error(1, "begin end.|.");
        check.error(1, "begin end. |begin end.");
        check.error(1, "begin end.|x");
        check.error(1, "begin end.   |1");
        check.error(1, "|.");
        check.error(1, "|");
    }

    private void variables() {
        check.made("begin end.", "JMP 0 1, INT 0 3, OPR 0 0");
        check.error(1, "var |begin end.");
        check.error(1, "var |proc f;begin end;begin end.");
        check.made("var v;begin end.", "JMP 0 1, INT 0 4, OPR 0 0");
        check.made("var a array 2;begin end.", "JMP 0 1, INT 0 5, OPR 0 0");
        check.made("var v;a array 2;w;b array 3;begin end.", "JMP 0 1, INT 0 10, OPR 0 0");
        StringBuilder most = new StringBuilder("var ");
        for (char c = 'a'; c <= 'z'; c++) {
            most.append(c).append(';');
        }
        for (int i = 0; i < 38; i++) {
            most.append((char) ('a' + i % 26)).append((char) ('j' + i / 26)).append(';');
        }
        most.append("begin end.");
        check.due("the length of the text with most names", 180, most.length());
        check.made(most.toString(), "JMP 0 1, INT 0 67, OPR 0 0");
        // The most with a statement that tells the last of them from one another.
        String many = most.substring(0, 4 + 2 * 26 + 3 * 35);
        check.made(many + "begin hk:=ik end.", "JMP 0 1, INT 0 64, LOD 0 63, STO 0 62, OPR 0 0");
        check.made(many + "begin a:=gk end.", "JMP 0 1, INT 0 64, LOD 0 61, STO 0 3, OPR 0 0");
        check.error(1, "var v|");
        check.error(1, "var v |begin end.");
        check.error(1, "var v|,w;begin end.");
        check.error(1, "var v;|;begin end.");
        check.error(1, "var v;|var w;begin end.");
        check.error(1, "var a array|;begin end.");
        check.error(1, "var a array |v;begin end.");
        check.error(1, "var a |2;begin end.");
        check.error(1, "var a array 2 |begin end.");
        check.error(1, "|v;begin end.");
        check.error(1, "proc f;begin end;|var v;begin end.");
    }

    private void sizes() {
        check.error(6, "var a array |0;begin end.");
        check.made("var a array 1;v;begin v:=a[0] end.",
                "JMP 0 1, INT 0 5, LIT 0 0, CHK 0 1, LDX 0 3, STO 0 4, OPR 0 0");
        check.made("var a array 30;v;begin v:=a[0] end.",
                "JMP 0 1, INT 0 34, LIT 0 0, CHK 0 30, LDX 0 3, STO 0 33, OPR 0 0");
        check.error(6, "var a array |31;begin end.");
        check.fine("var a array 0001;b array 0030;begin end.");
        check.error(6, "var a array |0000;begin end.");
        check.error(6, "var a array |0031;begin end.");
        check.error(6, "var a array |9999;begin end.");
        check.error(1, "var a array |-1;begin end.");
    }

    private void numberOfProcedures() {
        StringBuilder text = new StringBuilder();
        for (int count = 0; count <= 10; count++) {
            NestPascal x = Check.compiled(text + "begin end.");
            check.due("the code of " + count + " procedures", 3 * count + 3, x.code(-1, 0));
            check.due("where the program's JMP leads", 3 * count + 1, x.code(0, 2));
            text.append("proc ").append((char) ('a' + count)).append(";begin end;");
        }
        check.due("the length of the text with ten", 180, text.length() - 17 + 10);
    }

    private void parameters() {
        check.fine("proc f;begin end;begin f end.");
        check.error(1, "proc f(|);begin end;begin end.");
        check.fine("proc f(x);begin x:=1 end;begin f(1) end.");
        check.fine("proc f(x,y);begin y:=x end;begin f(1,2) end.");
        check.fine("proc f(x,y,z);begin z:=x+y end;begin f(1,2,3) end.");
        check.error(1, "proc f(x,y,z|,u);begin end;begin end.");
        check.error(1, "proc f(x,y,z|;begin end;begin end.");
        check.error(1, "proc f(x |y);begin end;begin end.");
        check.error(1, "proc f(|,x);begin end;begin end.");
        check.error(1, "proc f(x,|);begin end;begin end.");
        check.error(1, "proc f(x|;y);begin end;begin end.");
        check.error(1, "proc f(x |array 2);begin end;begin end.");
        check.error(1, "proc f(|1);begin end;begin end.");
        check.error(1, "proc f |x);begin end;begin end.");
        check.error(1, "proc |(x);begin end;begin end.");
        check.error(1, "proc |;begin end;begin end.");
    }

    private void blocksOfProcedures() {
        check.fine("proc f;var v;proc g;begin end;begin g end;begin f end.");
        check.error(1, "proc f |begin end;begin end.");
        check.error(1, "proc f(x) |begin end;begin end.");
        check.error(1, "proc f;|;begin end.");
        check.error(1, "proc f;begin end |begin end.");
        check.error(1, "proc f;begin end|.begin end.");
        check.error(1, "proc f;begin end;|;begin end.");
        check.error(1, "proc f;begin end;|.");
    }

    private void statements() {
        String end = "JMP 0 1, INT 0 3";
        String one = ", LIT 0 1, OPR 0 10";
        check.made("begin end.", end + ", OPR 0 0");
        check.made("begin write 1 end.", end + one + ", OPR 0 0");
        check.made("begin write 1;write 1 end.", end + one + one + ", OPR 0 0");
        check.made("begin write 1;write 1; end.", end + one + one + ", OPR 0 0");
        check.made("begin " + ";".repeat(170) + "end.", end + ", OPR 0 0");
        check.error(1, "begin write 1 |write 1 end.");
        check.error(1, "begin write 1|,write 1 end.");
        check.error(1, "|write 1.");
        check.error(1, "|end.");
        check.error(1, "begin|");
        check.error(1, "begin write 1|.");
        check.error(1, "begin ;|.");
        check.error(1, "begin |var v;end.");
        check.error(1, "begin |proc f;begin end;end.");
    }

    private void nothing() {
        check.fine("begin ; end.");
        check.fine("begin if 1=1 then end.");
        check.fine("begin if 1=1 then;end.");
        check.fine("begin if 1=1 then else end.");
        check.fine("begin while 1=2 do end.");
        check.fine("begin begin end;begin ; end end.");
        // Where a statement may be nothing, no other thing may stand.
        check.error(1, "begin |1 end.");
        check.error(1, "begin |( end.");
        check.error(1, "begin |- end.");
        check.error(1, "begin if 1=1 then |do end.");
        check.error(1, "begin while 1=2 do |then end.");
        // An expression may not be nothing.
        check.error(1, "begin write |end.");
        check.error(1, DECLARED + "v:=|end.");
    }

    private void assignments() {
        check.fine(DECLARED + "v:=1;a[0]:=1;a[v]:=a[v]+v end.");
        check.error(1, DECLARED + "v:=|;");
        check.error(1, DECLARED + "v:=1|:=1 end.");
        check.error(1, DECLARED + "v:=1 |1 end.");
        check.error(1, DECLARED + "v:=1|=1 end.");
        check.error(1, DECLARED + "a[|]:=1 end.");
        check.error(1, DECLARED + "a[0|,0]:=1 end.");
        check.error(1, DECLARED + "a[0|:=1 end.");
        check.error(1, DECLARED + "a[0|):=1 end.");
        check.error(1, DECLARED + "a[0]|[0]:=1 end.");
        check.error(1, DECLARED + "a[0] |end.");
        check.error(1, DECLARED + "a[0]|=1 end.");
        check.error(1, DECLARED + "a[0]:=|end.");
    }

    private void calls() {
        check.fine(DECLARED + "f;g(1);h(1,2);i(1,2,3) end.");
        check.error(1, DECLARED + "g(|) end.");
        check.error(1, DECLARED + "g(|,1) end.");
        check.error(1, DECLARED + "h(1,|) end.");
        check.error(1, DECLARED + "h(1 |2) end.");
        check.error(1, DECLARED + "h(1|;2) end.");
        check.error(1, DECLARED + "g(1|;");
        check.error(1, DECLARED + "g(1|]");
        check.error(1, DECLARED + "g(1)|(1) end.");
        check.error(1, DECLARED + "g(1)|:=1 end.");
        check.error(1, DECLARED + "f |1 end.");
        check.error(1, DECLARED + "f |f end.");
        check.error(1, DECLARED + "f|) end.");
    }

    private void compounds() {
        check.fine("begin begin end end.");
        check.fine("begin begin write 1;;begin end end;write 2 end.");
        check.error(1, "begin begin end|.");
        check.error(1, "begin end |end.");
        check.error(1, "begin begin end |begin end end.");
        check.error(1, "begin begin write 1 end |write 1 end.");
        // It is one statement, for an if or a while.
        check.writes("begin if 1=2 then begin write 1;write 2 end;write 3 end.", "3");
        check.writes("begin if 1=2 then write 1;write 2;write 3 end.", "2 3");
    }

    private void ifs() {
        check.fine("begin if 1=1 then write 1 end.");
        check.fine("begin if 1=1 then write 1 else write 2 end.");
        check.error(1, "begin if 1=1 then write 1 else write 2 |else write 3 end.");
        check.error(1, "begin if 1=1 then write 1;|else write 2 end.");
        check.error(1, "begin |else write 1 end.");
        check.error(1, "begin if 1=1 then begin |else end end.");
        check.error(1, "begin if 1=1 |write 1 end.");
        check.error(1, "begin if 1=1 |do write 1 end.");
        check.error(1, "begin if |then write 1 end.");
        check.error(1, "begin |then write 1 end.");
        // As many as there are ifs.
        check.fine("begin if 1=1 then if 1=1 then write 1 else write 2 else write 3 end.");
        check.error(1, "begin if 1=1 then if 1=1 then write 1 else write 2 else write 3 |else write 4 end.");
        check.fine("begin if 1=1 then while 1=2 do write 1 else write 2 end.");
        check.error(1, "begin while 1=2 do write 1 |else write 2 end.");
        // The innermost one's, unless an end closes that.
        check.writes("begin if 1=2 then if 1=1 then write 1 else write 2;write 9 end.", "9");
        check.writes("begin if 1=1 then if 1=2 then write 1 else write 2;write 9 end.", "2 9");
        check.writes("begin if 1=2 then begin if 1=1 then write 1 end else write 2;write 9 end.", "2 9");
        check.writes("begin if 1=2 then if 1=2 then write 1 else write 2 else write 3;write 9 end.", "3 9");
    }

    private void whiles() {
        check.writes("begin while 1=2 do write 1;write 9 end.", "9");
        check.writes("var v;begin while v<1 do v:=v+1;write v end.", "1");
        check.writes("var v;begin while v<3 do v:=v+1;write v end.", "3");
        check.writes("var v;begin while v<2 do begin v:=v+1;write v end end.", "1 2");
        check.error(1, "begin while 1=2 |then end.");
        check.error(1, "begin while 1=2|;");
        check.error(1, "begin while |do end.");
        check.error(1, "begin |do end.");
    }

    private void writes() {
        check.writes("begin write 1;write-1;write(2)end.", "1 -1 2");
        check.error(1, "begin write|.");
        check.error(1, "begin write |end.");
        check.error(1, "begin write 1|,2 end.");
        check.error(1, "begin write 1 |2 end.");
        check.error(1, "begin write 1|=1 end.");
        check.error(1, "begin write |write 1 end.");
    }

    private void conditions() {
        for (String relation : new String[] {"=", "#", "<", ">"}) {
            check.fine("begin if -1" + relation + "1+1 then;while (1)" + relation + "-2 do end.");
            check.error(1, "begin if |" + relation + "1 then end.");
            check.error(1, "begin if 1" + relation + "|then end.");
            check.error(1, "begin if 1" + relation + "1|" + relation + "1 then end.");
            check.error(1, "begin if 1" + relation + "|=1 then end.");
            check.error(1, "begin if (1|" + relation + "1) then end.");
        }
        check.error(1, "begin if 1 |then end.");
        check.error(1, "begin while 1 |do end.");
        check.error(1, "begin if 1|:=1 then end.");
    }

    private void expressions() {
        check.writes("begin write 5;write -5;write 5+2;write 5-2;write -5+2;write -5-2;write 9-5-2 end.",
                "5 -5 7 3 -3 -7 2");
        check.error(1, "begin write -|-5 end.");
        check.error(1, "begin write |+5 end.");
        check.error(1, "begin write 5+|-2 end.");
        check.error(1, "begin write 5-|-2 end.");
        check.error(1, "begin write 5+|end.");
        check.error(1, "begin write -|end.");
        check.error(1, "begin write 5|");
        check.fine("begin write (-5)-(-2) end.");
        check.writes("begin write1" + "+1".repeat(82) + "end.", "83");
    }

    private void terms() {
        check.writes("begin write 5;write 5*2;write 5/2;write 100/7/2;write 100/7*2;write 7*2/4 end.", "5 10 2 7 28 3");
        check.writes("begin write 2+3*4;write 2*3+4;write 8-6/2;write -2*3 end.", "14 10 5 -6");
        check.error(1, "begin write |*5 end.");
        check.error(1, "begin write |/5 end.");
        check.error(1, "begin write 5*|end.");
        check.error(1, "begin write 5/|end.");
        check.error(1, "begin write 5*|*5 end.");
        check.error(1, "begin write 5*|-5 end.");
        check.writes("begin write1" + "*1".repeat(82) + "end.", "1");
    }

    private void factors() {
        check.fine(DECLARED + "write 1;write v;write a[1];write (1);write ((v));write a[a[(v)]] end.");
        check.error(1, "begin write (|) end.");
        check.error(1, "begin write (1|;");
        check.error(1, "begin write (1|] end.");
        check.error(1, "begin write (1|,1) end.");
        check.error(1, "begin write (1)|(1) end.");
        check.error(1, "begin write 1|) end.");
        check.error(1, "begin write |) end.");
        check.error(1, "begin write |[1] end.");
        check.error(1, DECLARED + "write a[|] end.");
        check.error(1, DECLARED + "write a[1|) end.");
        check.error(1, DECLARED + "write a[1|,1] end.");
        check.error(1, DECLARED + "write a[1]|[1] end.");
        check.error(1, DECLARED + "write v|(1) end.");
        check.error(1, DECLARED + "write 1|[1] end.");
        check.error(1, "begin write |if end.");
    }

    private void openOnly() {
        // What has been closed counts no more, however often there was something.
        check.fine("begin " + "begin end;".repeat(8) + SIX + SIX_ENDS + " end.");
        check.fine("begin write " + "(1)+".repeat(8) + "((((((1)))))) end.");
        check.fine("begin " + "if 1=1 then;".repeat(7) + "write ((((((1)))))) end.");
        check.fine("begin " + "while 1=2 do;".repeat(7) + "write ((((((1)))))) end.");
        check.fine(DECLARED + "h((((((1))))),(((((2))))));write a[a[1]] end.");
        check.fine(DECLARED + "a[a[(1)]]:=((((((v)))))) end.");
        check.fine(DECLARED + "g((1));g((1));write ((((((1)))))) end.");
        // While as many are open, one more is not taken.
        check.error(1, "begin " + "begin end;".repeat(3) + SIX + "|begin end;end.");
        check.error(1, "begin write (1)+((((((|(1))))))) end.");
    }

    private void deepExpressions() {
        check.fine("begin write ((((((1)))))) end.");
        check.error(1, "begin write ((((((|(1))))))) end.");
        check.fine(DECLARED + "v:=a[a[a[a[a[a[1]]]]]] end.");
        check.error(1, DECLARED + "v:=a[a[a[a[a[a[a|[1]]]]]]] end.");
        check.fine(DECLARED + "v:=a[(a[(a[(1)])])] end.");
        check.error(1, DECLARED + "v:=a[(a[(a[(|(1))])])] end.");
        check.error(1, DECLARED + "v:=a[(a[(a[(a|[1])])])] end.");
        check.fine("begin if ((((1))))=1 then end.");
        check.fine("begin while 1=((((1)))) do end.");
        // The [ in front of := stands in a statement, in no expression: it does not count, what is in it does.
        check.fine(DECLARED + "a[((((((1))))))]:=1 end.");
        check.error(1, DECLARED + "a[((((((|(1)))))))]:=1 end.");
        check.fine(DECLARED + "a[a[a[a[a[a[a[1]]]]]]]:=1 end.");
        check.error(1, DECLARED + "a[a[a[a[a[a[a[a|[1]]]]]]]]:=1 end.");
        check.fine("var a array 9;begin " + SIX + "a[1]:=1" + SIX_ENDS + " end.");
        check.error(1, "var a array 9;begin " + SIX + "a[|(1)]:=1" + SIX_ENDS + " end.");
        check.error(1, "var a array 9;begin " + SIX + "a[1]:=|(1)" + SIX_ENDS + " end.");
    }

    private void deepCalls() {
        check.fine(DECLARED + "g((((((1)))))) end.");
        check.error(1, DECLARED + "g((((((|(1))))))) end.");
        check.fine(DECLARED + "h(1,(((((1)))))) end.");
        check.error(1, DECLARED + "h(1,(((((|(1))))))) end.");
        check.fine("proc g(x);begin end;begin begin begin begin begin begin g(1) end end end end end end.");
        check.error(1, "proc g(x);begin end;begin " + SIX + "g|(1) end.");
        // A call without ( makes nothing deeper.
        check.fine("proc f;begin end;begin " + SIX + "f" + SIX_ENDS + " end.");
        // Nor does the ( of parameters.
        check.fine("proc f(x);proc g(x);begin write ((((((1)))))) end;begin end;begin end.");
    }

    private void deepBegins() {
        check.fine("begin " + SIX + SIX_ENDS + " end.");
        check.error(1, "begin " + SIX + "|begin end" + SIX_ENDS + " end.");
        // The blocks' own do not count, however many levels there are.
        check.fine("proc a;proc b;proc c;proc d;begin " + SIX + SIX_ENDS
                + " end;begin end;begin end;begin end;begin end.");
        check.error(1, "proc a;proc b;proc c;proc d;begin " + SIX + "|begin end");
    }

    private void deepIfsAndWhiles() {
        String ifs = "if 1=1 then ".repeat(6);
        String whiles = "while 1=1 do ".repeat(6);
        check.fine("begin " + ifs + "write 1 end.");
        check.error(1, "begin " + ifs + "|if 1=1 then write 1 end.");
        check.fine("begin " + whiles + "write 1 end.");
        check.error(1, "begin " + whiles + "|while 1=1 do write 1 end.");
        check.error(1, "begin " + ifs + "|while 1=1 do write 1 end.");
        check.error(1, "begin " + whiles + "|if 1=1 then write 1 end.");
        check.error(1, "begin " + ifs + "|begin end end.");
        check.error(1, "begin " + ifs + "write |(1) end.");
        check.error(1, "begin " + whiles + "write |(1) end.");
        // With their statements they end.
        check.fine("begin " + ifs + ";" + ifs + "write 1 end.");
        check.fine("begin " + whiles + ";write ((((((1)))))) end.");
        // The else's statement is one of theirs.
        check.fine("begin if 1=1 then else write (((((1))))) end.");
        check.error(1, "begin if 1=1 then else write (((((|(1)))))) end.");
        // From its word on it is open: its condition lies in it.
        check.fine("begin if (((((1)))))=1 then end.");
        check.error(1, "begin if (((((|(1))))))=1 then end.");
        check.fine("begin while 1=(((((1))))) do end.");
        check.error(1, "begin while 1=(((((|(1)))))) do end.");
    }

    private void deepMixed() {
        String front = "var a array 9;proc g(x);begin end;begin begin if 1=1 then while 1=1 do ";
        check.fine(front + "g(a[(1)]) end end.");
        check.error(1, front + "g(a[(|(1))]) end end.");
        check.error(1, front + "g(a[(a|[1])]) end end.");
        check.fine(front + "begin g(a[1]) end end end.");
        check.error(1, front + "begin g(a[|(1)]) end end end.");
        check.fine(front + "begin if 1=1 then g(1) end end end.");
        check.error(1, front + "begin if 1=1 then g(|(1)) end end end.");
        check.fine(front + "begin if 1=1 then begin end end end end.");
        check.error(1, front + "begin if 1=1 then begin g|(1) end end end end.");
        check.error(1, front + "begin if 1=1 then begin |begin end end end end end.");
        check.error(1, front + "begin if 1=1 then begin |if 1=1 then end end end end.");
        check.error(1, front + "begin if 1=1 then begin |while 1=1 do end end end end.");
    }

    private void levels() {
        String four = "proc a;proc b;proc c;proc d;";
        check.fine(four + "begin end;begin end;begin end;begin end;begin end.");
        check.error(6, four + "|proc e;begin end;begin end;begin end;begin end;begin end;begin end.");
        check.error(6, four + "var v;|proc e;begin end;begin end.");
        check.error(6, four + "begin end;proc e;|proc f;begin end;begin end.");
        // Procedures side by side have the same level.
        check.fine(four + "begin end;proc e;begin end;begin end;proc e;begin end;begin end;begin end;begin end.");
        check.made("var v;proc a;proc b;proc c;proc d;begin v:=1 end;begin v:=2 end;begin v:=3 end;begin v:=4 end;"
                + "begin v:=5 end.",
                "JMP 0 21, JMP 0 17, JMP 0 13, JMP 0 9, JMP 0 5, INT 0 3, LIT 0 1, STO 4 3, OPR 0 0, "
                + "INT 0 3, LIT 0 2, STO 3 3, OPR 0 0, INT 0 3, LIT 0 3, STO 2 3, OPR 0 0, "
                + "INT 0 3, LIT 0 4, STO 1 3, OPR 0 0, INT 0 4, LIT 0 5, STO 0 3, OPR 0 0");
    }
}
