/** The sentences on what names mean, on the errors, and on compile and error. */
final class ErrorBoundaries {
    private static final String DECLARED = "var v;a array 9;proc f;begin end;proc g(x);begin end;"
            + "proc h(x,y);begin end;proc i(x,y,z);begin end;begin ";
    private static final String SIX = "begin begin begin begin begin begin ";
    private static final String SIX_ENDS = " end end end end end end";

    private final Check check;

    ErrorBoundaries(Check check) {
        this.check = check;
    }

    void all() {
        check.sentence("A NAME means the variable, array, parameter (a variable) or procedure declared of it"
                + " in the block", this::meaning);
        check.sentence("(a procedure's parameters and own variables are its block's, it itself is of the one around),",
                this::blockOfNames);
        check.sentence("so far,", this::soFar);
        check.sentence("or else in the blocks around, the innermost first.", this::blocksAround);
        check.sentence("ERRORS: tokens are looked at from the left to the right, and the first that is wrong counts,",
                this::firstCounts);
        check.sentence("with the place of its first character (the length, at the end):", this::places);
        check.sentence("1: it is none,", this::noToken);
        check.sentence("or it may not stand there whatever its name means,", this::misplaced);
        check.sentence("or makes it too deep.", this::tooDeep);
        check.sentence("2: a name that means nothing.", this::unknown);
        check.sentence("3: a name declared that was declared in the same block.", this::declaredAgain);
        check.sentence("4: a name that is a procedure in a factor,", this::procedureInFactor);
        check.sentence("or with := or [ behind;", this::procedureGivenValue);
        check.sentence("or (told at the name) an array without [ behind,", this::arrayWithoutIndex);
        check.sentence("another one with it,", this::indexOfOthers);
        check.sentence("or, in front of a statement, a variable without := behind.", this::variableWithoutValue);
        check.sentence("5: for a call: the token behind the name, if it is ( but there are no parameters,",
                this::argumentsForNone);
        check.sentence("or is not but there are;", this::noArguments);
        check.sentence("the ) behind too few or too many arguments.", this::countOfArguments);
        check.sentence("6: a size not 1 .. 30;", this::sizes);
        check.sentence("proc for a fifth level.", this::fifthLevel);
        check.sentence("At one token the lower number counts.", this::lowerNumber);
        check.sentence("Takes the text, which is empty then, as the program;", this::textIsTaken);
        check.sentence("the machine is idle:", this::machineIsIdle);
        check.sentence("how many instructions its code has.", this::countOfInstructions);
        check.sentence("IllegalArgumentException if there is an error (program and machine stay).", this::programStays);
        check.sentence("Of the latest compile, if it threw: what 0: the error, 1: its place;", this::latestCompile);
        check.sentence("else NONE. NONE for another what.", this::noError);
    }

    private void meaning() {
        check.made("var v;begin v:=v end.", "JMP 0 1, INT 0 4, LOD 0 3, STO 0 3, OPR 0 0");
        check.made("var a array 2;begin a[0]:=a[1] end.",
                "JMP 0 1, INT 0 5, LIT 0 0, CHK 0 2, LIT 0 1, CHK 0 2, LDX 0 3, STX 0 3, OPR 0 0");
        check.made("proc f(x);begin x:=x end;begin f(1) end.",
                "JMP 0 6, JMP 0 2, INT 0 3, LOD 0 -1, STO 0 -1, OPR 1 0, INT 0 3, LIT 0 1, CAL 0 1, OPR 0 0");
        // Declared in this block, not in one beside it.
        check.error(2, "proc f;var v;begin end;proc g;begin |v:=1 end;begin end.");
        check.error(2, "proc f(x);begin end;proc g;begin |x:=1 end;begin end.");
        check.error(2, "proc f;proc h;begin end;begin end;proc g;begin |h end;begin end.");
        check.fine("proc f;var v;begin v:=1 end;proc g(v);begin v:=1 end;proc v;begin end;begin v end.");
    }

    private void blockOfNames() {
        check.fine("proc f(x);var y;begin x:=y end;begin end.");
        check.error(2, "proc f(x);var y;begin end;begin |x:=1 end.");
        check.error(2, "proc f(x);var y;begin end;begin |y:=1 end.");
        check.error(3, "proc f(x);var |x;begin end;begin end.");
        check.error(3, "proc f(x);var y;proc |x;begin end;begin end;begin end.");
        check.error(3, "proc f(x);var y;proc |y;begin end;begin end;begin end.");
        // It itself: known in its block and behind it, declared again within but not beside it.
        check.fine("proc f;begin f end;begin f end.");
        check.fine("proc f(f);begin f:=1 end;begin f(1) end.");
        check.fine("proc f;var f;begin f:=1 end;begin f end.");
        check.fine("proc f;proc f;begin end;begin end;begin f end.");
        check.error(3, "proc f;begin end;proc |f;begin end;begin end.");
        check.error(3, "var f;proc |f;begin end;begin end.");
        check.error(2, "proc f;proc g;begin end;begin g end;begin |g end.");
    }

    private void soFar() {
        check.error(2, "proc f;begin |g end;proc g;begin end;begin end.");
        check.fine("proc g;begin end;proc f;begin g end;begin end.");
        check.fine("proc f;begin f end;begin end.");
        // Till it is declared in the block, the one around is meant.
        check.made("proc g;begin end;proc f;proc h;begin g end;proc g;begin end;begin g end;begin end.",
                "JMP 0 15, JMP 0 2, INT 0 3, OPR 0 0, JMP 0 12, JMP 0 6, INT 0 3, CAL 2 1, OPR 0 0, "
                + "JMP 0 10, INT 0 3, OPR 0 0, INT 0 3, CAL 0 9, OPR 0 0, INT 0 3, OPR 0 0");
    }

    private void blocksAround() {
        String l = "LOD 0 3, STO 0 3, ";
        check.made("var v;proc a;var v;proc b;var v;begin v:=v end;begin v:=v end;begin v:=v end.",
                "JMP 0 11, JMP 0 7, JMP 0 3, INT 0 4, " + l + "OPR 0 0, INT 0 4, " + l + "OPR 0 0, INT 0 4, " + l
                + "OPR 0 0");
        check.made("var v;proc a;var v;proc b;begin v:=v end;begin end;begin end.",
                "JMP 0 9, JMP 0 7, JMP 0 3, INT 0 3, LOD 1 3, STO 1 3, OPR 0 0, INT 0 4, OPR 0 0, INT 0 4, OPR 0 0");
        check.made("var v;proc a;proc b;begin v:=v end;begin end;begin end.",
                "JMP 0 9, JMP 0 7, JMP 0 3, INT 0 3, LOD 2 3, STO 2 3, OPR 0 0, INT 0 3, OPR 0 0, INT 0 4, OPR 0 0");
        check.error(2, "proc a;proc b;begin |v:=v end;begin end;begin end.");
        // The innermost one counts even if it is of another kind.
        check.error(4, "var v;proc a;proc v;begin end;begin |v:=1 end;begin end.");
        check.error(4, "var v array 2;proc a(v);begin |v[1]:=1 end;begin end.");
        check.error(4, "proc f(f);begin |f(1) end;begin end.");
    }

    private void firstCounts() {
        check.error(2, "begin |y;z end.");
        check.error(2, "begin write |y+? end.");
        check.error(1, "begin write |?+y end.");
        check.error(6, "var x array |31;x;begin ? end.");
        check.error(3, "var x;|x array 31;begin end.");
        check.error(4, DECLARED + "|v;y end.");
        check.error(5, DECLARED + "f|(y) end.");
        check.error(2, DECLARED + "g(|y,1) end.");
        check.error(5, DECLARED + "g(1,2|)? end.");
        check.error(1, "|? begin end.");
    }

    private void places() {
        check.error(1, "|");
        check.error(1, " |");
        check.error(1, "|?");
        check.error(1, "begin end|");
        check.error(1, "begin end   |");
        check.error(2, "begin |abcdef:=1 end.");
        check.error(2, "begin   |abcdef   :=1 end.");
        check.error(1, "begin write |12345 end.");
        check.error(1, "begin end |:=");
        // The first and the last of 180 characters, and the end behind them.
        check.errorAt(1, 0, "?" + " ".repeat(179));
        check.errorAt(1, 179, "begin end." + " ".repeat(169) + "?");
        check.errorAt(1, 180, "begin end" + " ".repeat(171));
        check.errorAt(1, 180, " ".repeat(180));
        // Rows that only the end of 180 characters ends.
        check.errorAt(2, 177, "begin" + " ".repeat(172) + "abc");
        check.errorAt(1, 180, "begin write" + " ".repeat(166) + "123");
        check.errorAt(1, 179, "begin" + " ".repeat(174) + ":");
        // As many tokens as there are characters.
        check.errorAt(1, 0, ";".repeat(180));
        check.errorAt(1, 180, "begin" + ";".repeat(175));
    }

    private void noToken() {
        check.fine("var abcdef;begin abcdef:=9999 end.");
        check.error(1, "var |abcdefg;begin end.");
        check.error(1, "var abcdef;begin abcdef:=|10000 end.");
        check.error(1, "var v;begin v:=1 |: end.");
        check.error(1, "begin write 1 |& 2 end.");
        check.error(1, "begin end.|!");
        // Where anything else would be an error of a higher number.
        check.error(1, DECLARED + "g|? end.");
        check.error(1, DECLARED + "g |abcdefg end.");
        check.error(1, "var x array |00031;begin end.");
        check.error(1, "begin |abcdefg:=1 end.");
    }

    private void misplaced() {
        // Variable, array, procedures and a name that means nothing: none may stand there.
        for (String name : new String[] {"v", "a", "f", "g", "y"}) {
            check.error(1, DECLARED + "write 1 |" + name + " end.");
            check.error(1, DECLARED + "f |" + name + " end.");
            check.error(1, DECLARED + "g |" + name + " end.");
            check.error(1, DECLARED + "if 1=1 |" + name + " end.");
            check.error(1, DECLARED + "begin end |" + name + " end.");
            check.error(1, DECLARED + "end.|" + name);
        }
        check.error(1, "|v;begin end.");
        check.error(1, "var a array |v;begin end.");
        check.error(1, "var v |v;begin end.");
        // Where a name may stand, its meaning is looked at.
        check.error(2, DECLARED + "write |y end.");
        check.error(4, DECLARED + "write |f end.");
        check.fine(DECLARED + "write v end.");
    }

    private void tooDeep() {
        check.fine("begin " + SIX + "write 1" + SIX_ENDS + " end.");
        check.error(1, "begin " + SIX + "|begin");
        check.error(1, "begin " + SIX + "|if");
        check.error(1, "begin " + SIX + "|while");
        check.error(1, "begin " + SIX + "write |(");
        check.error(1, "begin " + SIX + "write 1+2*|(");
        check.error(1, "var a array 9;begin " + SIX + "write a|[");
        check.error(1, "var a array 9;begin " + SIX + "a[a|[");
        check.error(1, "var a array 9;begin " + SIX + "a[1]:=a|[");
        check.error(1, "proc g(x);begin end;begin " + SIX + "g|(");
        check.error(1, "begin " + SIX + "end;begin |begin");
        check.fine("begin " + SIX + "end;begin end" + SIX_ENDS + ".");
    }

    private void unknown() {
        check.error(2, "begin |y end.");
        check.error(2, "begin |y:=1 end.");
        check.error(2, "begin |y[1]:=1 end.");
        check.error(2, "begin |y(1) end.");
        check.error(2, "begin |y");
        check.error(2, "begin write |y end.");
        check.error(2, "begin write 1+|y[1] end.");
        check.error(2, "begin if |y=1 then end.");
        check.error(2, DECLARED + "a[|y]:=1 end.");
        check.error(2, DECLARED + "g(|y) end.");
        check.error(2, DECLARED + "|vv:=1 end.");
        check.fine("var y;begin y:=1;write y;if y=1 then end.");
    }

    private void declaredAgain() {
        check.error(3, "var x;|x;begin end.");
        check.error(3, "var x;|x array 2;begin end.");
        check.error(3, "var x array 2;|x;begin end.");
        check.error(3, "var x;y;z;|x;begin end.");
        check.error(3, "var x;proc |x;begin end;begin end.");
        check.error(3, "proc x;begin end;proc |x;begin end;begin end.");
        check.error(3, "proc f(x,|x);begin end;begin end.");
        check.error(3, "proc f(x,y,|x);begin end;begin end.");
        check.error(3, "proc f(x,y,|y);begin end;begin end.");
        check.error(3, "proc f(x);var |x;begin end;begin end.");
        check.error(3, "proc f;var y;proc |y;begin end;begin end;begin end.");
        // In another block it is another one.
        check.fine("var x;y;proc f(x);var y;begin end;proc g(x);var y;begin end;begin end.");
        check.fine("var x;proc f;proc x;begin end;begin x end;begin x:=1 end.");
        check.fine("var x;proc f;var f;begin end;begin f end.");
        // A name of the innermost block left is forgotten; that of the block around is not.
        check.error(3, "var x;proc f(x);begin end;proc |x;begin end;begin end.");
    }

    private void procedureInFactor() {
        check.error(4, DECLARED + "write |f end.");
        check.error(4, DECLARED + "write |g(1) end.");
        check.error(4, DECLARED + "write |f[1] end.");
        check.error(4, DECLARED + "v:=1+|f end.");
        check.error(4, DECLARED + "g(|f) end.");
        check.error(4, DECLARED + "a[|f]:=1 end.");
        check.error(4, DECLARED + "if 1=|f then end.");
        check.error(4, "proc f;begin write |f end;begin end.");
        check.fine(DECLARED + "f;write v end.");
        check.fine("proc f;var f;begin write f end;begin f end.");
    }

    private void procedureGivenValue() {
        check.error(4, DECLARED + "|f:=1 end.");
        check.error(4, DECLARED + "|g:=1 end.");
        check.error(4, DECLARED + "|f[1]:=1 end.");
        check.error(4, DECLARED + "|g[1]:=1 end.");
        check.error(4, DECLARED + "|f:=? end.");
        check.error(4, "proc f;begin |f:=1 end;begin end.");
        check.fine(DECLARED + "f;g(1);v:=1 end.");
        // Another token behind is what is wrong itself.
        check.error(1, DECLARED + "f|=1 end.");
        check.error(1, DECLARED + "f|]:=1 end.");
        check.error(1, DECLARED + "f|: =1 end.");
    }

    private void arrayWithoutIndex() {
        check.error(4, DECLARED + "|a:=1 end.");
        check.error(4, DECLARED + "|a end.");
        check.error(4, DECLARED + "|a(1):=1 end.");
        check.error(4, DECLARED + "|a");
        check.error(4, DECLARED + "|a? end.");
        check.error(4, DECLARED + "write |a end.");
        check.error(4, DECLARED + "write |a(1) end.");
        check.error(4, DECLARED + "write 1+|a");
        check.error(4, DECLARED + "g(|a) end.");
        check.error(4, DECLARED + "a[|a]:=1 end.");
        check.fine(DECLARED + "a[1]:=a[2];write a [3];g(a[a[4]]) end.");
    }

    private void indexOfOthers() {
        check.error(4, DECLARED + "|v[1]:=1 end.");
        check.error(4, DECLARED + "write |v[1] end.");
        check.error(4, DECLARED + "write |v[");
        check.error(4, DECLARED + "a[|v[1]]:=1 end.");
        check.error(4, "proc g(x);begin |x[1]:=1 end;begin end.");
        check.error(4, "proc g(x);begin write |x[1] end;begin end.");
        check.fine(DECLARED + "v:=v;write v end.");
        check.fine("proc g(x);begin x:=1;write x end;begin end.");
    }

    private void variableWithoutValue() {
        check.error(4, DECLARED + "|v end.");
        check.error(4, DECLARED + "|v;end.");
        check.error(4, DECLARED + "|v(1) end.");
        check.error(4, DECLARED + "|v=1 end.");
        check.error(4, DECLARED + "|v: =1 end.");
        check.error(4, DECLARED + "|v? end.");
        check.error(4, DECLARED + "|v");
        check.error(4, DECLARED + "if 1=1 then |v else end.");
        check.error(4, "proc g(x);begin |x end;begin end.");
        check.fine(DECLARED + "v:=1;v :=1 end.");
        // In front of a statement only.
        check.fine(DECLARED + "write v;if v=v then;v:=v end.");
    }

    private void argumentsForNone() {
        check.fine(DECLARED + "f end.");
        check.error(5, DECLARED + "f|(1) end.");
        check.error(5, DECLARED + "f|() end.");
        check.error(5, DECLARED + "f  |(? end.");
        check.error(5, DECLARED + "f|(");
        check.error(5, "proc f;begin f|(1) end;begin end.");
        check.fine(DECLARED + "g(1) end.");
        // There were parameters, but of a procedure that is known no more.
        check.fine("proc a;proc p(x);begin end;begin p(1) end;proc b;begin end;begin b end.");
        check.error(5, "proc a;proc p(x);begin end;begin p(1) end;proc b;begin end;begin b|(1) end.");
    }

    private void noArguments() {
        check.fine(DECLARED + "g(1);h(1,2);i(1,2,3) end.");
        check.error(5, DECLARED + "g |end.");
        check.error(5, DECLARED + "h |end.");
        check.error(5, DECLARED + "i  |; end.");
        check.error(5, DECLARED + "if 1=1 then g |else end.");
        check.error(5, DECLARED + "if 1=1 then if 1=1 then else g |else end.");
        check.error(5, "proc g(x);begin g |end;begin end.");
        check.fine(DECLARED + "f;if 1=1 then f else f end.");
    }

    private void countOfArguments() {
        check.error(5, DECLARED + "g(1,2|) end.");
        check.fine(DECLARED + "g(1) end.");
        check.error(5, DECLARED + "h(1|) end.");
        check.fine(DECLARED + "h(1,2) end.");
        check.error(5, DECLARED + "h(1,2,3|) end.");
        check.error(5, DECLARED + "i(1,2|) end.");
        check.fine(DECLARED + "i(1,2,3) end.");
        check.error(5, DECLARED + "i(1,2,3,4|) end.");
        check.error(5, DECLARED + "g((1),(2) |) end.");
        check.error(5, DECLARED + "g(" + "1,".repeat(30) + "1|) end.");
        check.error(5, DECLARED + "h(1|) ?");
        // Another token there is no matter of how many there are.
        check.error(1, DECLARED + "h(1|; end.");
        check.error(1, DECLARED + "g(1,2|] end.");
    }

    private void sizes() {
        check.error(6, "var x array |0;begin end.");
        check.fine("var x array 1;begin end.");
        check.fine("var x array 30;begin end.");
        check.error(6, "var x array |31;begin end.");
        check.error(6, "var x array |9999 ?");
        check.error(6, "proc f;var y;x array |31;begin end;begin end.");
        // It is told at the size; the number of arrays has no such limit.
        check.fine("var a array 30;b array 30;c array 30;d array 30;e array 30;f array 30;g array 30;begin end.");
    }

    private void fifthLevel() {
        String four = "proc a;proc b;proc c;proc d;";
        check.fine(four + "begin end;begin end;begin end;begin end;begin end.");
        check.error(6, four + "|proc e;begin end;begin end;begin end;begin end;begin end.");
        check.error(6, four + "|proc ?");
        check.error(6, "proc a;proc b;proc c;proc d(x);var y;|proc");
        check.fine("proc a;proc b;proc c;begin end;proc d;begin end;begin end;begin end;begin end.");
    }

    private void lowerNumber() {
        // 1 before 2 and 3: a name where none may stand.
        check.error(1, "begin write 1 |y end.");
        check.error(1, "var x;y |x;begin end.");
        // 1 before 5: what may not stand behind a call, what makes it too deep.
        check.error(1, DECLARED + "g|.");
        check.error(1, DECLARED + "g|");
        check.error(1, DECLARED + "g |then end.");
        check.error(1, DECLARED + "g |else end.");
        check.error(1, DECLARED + "f;g |else end.");
        check.error(1, DECLARED + "if 1=1 then begin f;g |else end end.");
        check.error(1, DECLARED + "if 1=1 then;g |else end.");
        check.error(1, DECLARED + "if 1=1 then else g |else end.");
        check.error(1, DECLARED + "while 1=1 do g |else end.");
        check.error(1, DECLARED + "g(|) end.");
        check.error(1, "proc f;begin end;begin " + SIX + "f|(1) end.");
        check.error(5, "proc f;begin end;begin begin begin begin begin begin f|(1) end.");
        // 1 before 6: a size that is no number, proc where it may not stand.
        check.error(1, "var x array |00000;begin end.");
        check.error(1, "proc a;proc b;proc c;proc d;var |proc e;");
        check.error(1, "proc a;proc b;proc c;proc d;begin |proc e;");
        // 2 before 4: a name that means nothing is none of the kinds.
        check.error(2, "begin |y[1]:=1 end.");
        check.error(2, "begin write |y[1] end.");
        check.error(2, "begin |y end.");
    }

    private void textIsTaken() {
        NestPascal x = new NestPascal();
        Check.put(x, "begin write 1 end.");
        check.due("compile()", 5, x.compile());
        check.due("the program", "JMP 0 1, INT 0 3, LIT 0 1, OPR 0 10, OPR 0 0", Check.listing(x));
        check.due("whether compile() of an empty text throws", true, Check.compileThrows(x));
        check.due("the place of the error", 0, x.error(1));
        check.due("the program then", "JMP 0 1, INT 0 3, LIT 0 1, OPR 0 10, OPR 0 0", Check.listing(x));
        // The text is empty behind an error, too: there is room for all 180 characters again.
        Check.put(x, " ".repeat(180));
        check.due("whether compile() of 180 blanks throws", true, Check.compileThrows(x));
        Check.put(x, "begin end." + " ".repeat(170));
        check.due("compile() of 180 characters", 3, x.compile());
        check.due("write where the text is empty", true, x.write(' '));
        Check.put(x, "begin end." + " ".repeat(169));
        check.due("write where the text is full", false, x.write(' '));
        check.due("compile()", 3, x.compile());
        nothingIsLeftOfTheText();
    }

    /** Whatever the text before had declared or opened, and however it went on where this one ends. */
    private void nothingIsLeftOfTheText() {
        NestPascal x = new NestPascal();
        String open = "var v;proc f(x);proc b;proc c;proc d;begin begin begin begin write (((";
        check.errorAt(x, 1, open.length(), open + "?");
        check.errorAt(x, 2, 6, "begin v:=1 end.");
        check.errorAt(x, 2, 6, "begin f(1) end.");
        check.fine(x, "var v;begin begin begin begin begin begin begin write v end end end end end end end.");
        check.errorAt(x, 2, 6, "begin v:=1 end.");
        check.fine(x, "proc a;proc b;proc c;proc d;begin end;begin end;begin end;begin end;begin end.");
        check.errorAt(x, 1, 12, "begin write 9999999999");
        check.errorAt(x, 1, 13, "begin write 1");
        check.fine(x, "begin end.");
        check.errorAt(x, 2, 6, "begin en");
        check.errorAt(x, 1, 9, "begin end");
        check.fine(x, "var a array 2;begin a[1]:=1 end.");
        check.errorAt(x, 1, 24, "var a array 2;begin a[1]:");
    }

    private void machineIsIdle() {
        String[] texts = {"begin while 1=1 do end.", "begin end.", "proc f;begin f end;begin f end.",
            "var a array 2;begin write a[2] end.", "begin write 1/0 end."};
        for (int state = 1; state <= 5; state++) {
            NestPascal x = Check.started(texts[state - 1]);
            Check.runOut(x);
            check.due("the state before", state, x.about(0));
            Check.put(x, "begin write 7 end.");
            check.due("compile()", 5, x.compile());
            check.due("about behind it", "0 0 0 -1 0 0", Check.facts(x));
            check.due("run(200)", 0, x.run(200));
            check.due("written(0)", 0, x.written(0));
            check.due("start()", true, x.start());
            check.due("about(0)", 1, x.about(0));
        }
    }

    private void countOfInstructions() {
        NestPascal fewest = new NestPascal();
        Check.put(fewest, "begin end.");
        check.due("compile() of the shortest program", 3, fewest.compile());
        NestPascal most = new NestPascal();
        Check.put(most, "begin write1" + "+1".repeat(82) + "end.");
        check.due("compile() of a long one", 169, most.compile());
        check.due("code(-1, 0) of it", 169, most.code(-1, 0));
        check.due("its last operation", "9 0 0", most.code(168, 0) + " " + most.code(168, 1) + " " + most.code(168, 2));
        check.due("the one in front of it", 10, most.code(167, 2));
        check.due("code(169, 0)", 0, most.code(169, 0));
    }

    private void programStays() {
        String[] wrong = {"begin ? end.", "begin y end.", "var x;x;begin end.", "var x;begin x end.",
            "proc f;begin end;begin f(1) end.", "var x array 31;begin end."};
        for (int error = 1; error <= 6; error++) {
            NestPascal x = Check.started("var v;begin v:=7;write v;while 1=1 do end.");
            x.run(20);
            String facts = Check.facts(x);
            String code = Check.listing(x);
            Check.put(x, wrong[error - 1]);
            check.due("whether compile() throws for " + wrong[error - 1], true, Check.compileThrows(x));
            check.due("error(0)", error, x.error(0));
            check.due("the program", code, Check.listing(x));
            check.due("the machine", facts, Check.facts(x));
            check.due("the cells", "0 0 0 7", Check.cells(x, 0, 3));
            check.due("written(0)", 7, x.written(0));
            check.due("variable(0, 3)", 7, x.variable(0, 3));
            check.due("run(5)", 5, x.run(5));
        }
        // Where there was none before, there is none.
        NestPascal none = new NestPascal();
        Check.put(none, "begin write 1 end");
        check.due("whether compile() throws", true, Check.compileThrows(none));
        check.due("code(-1, 0)", 0, none.code(-1, 0));
        check.due("start()", false, none.start());
        // Without an error nothing is thrown.
        check.fine("begin write 1 end.");
    }

    private void latestCompile() {
        NestPascal x = new NestPascal();
        Check.put(x, "begin y end.");
        Check.compileThrows(x);
        check.due("error(0)", 2, x.error(0));
        check.due("error(1)", 6, x.error(1));
        Check.put(x, "var v;v;begin end.");
        check.due("error(0) before the next compile", 2, x.error(0));
        Check.compileThrows(x);
        check.due("error(0) of the latest", 3, x.error(0));
        check.due("error(1) of the latest", 6, x.error(1));
        x.write(31);
        x.start();
        x.run(1);
        Check.runThrows(x, 201);
        check.due("error(0) behind other calls", 3, x.error(0));
        check.due("error(1) behind other calls", 6, x.error(1));
        Check.put(x, "begin end.");
        x.compile();
        check.due("error(0) when the latest did not throw", NestPascal.NONE, x.error(0));
        check.due("error(1) when the latest did not throw", NestPascal.NONE, x.error(1));
        Check.compileThrows(x);
        check.due("error(0) when it throws again", 1, x.error(0));
        check.due("error(1), the least place", 0, x.error(1));
    }

    private void noError() {
        NestPascal x = new NestPascal();
        int[] others = {-1, 2, 3, Integer.MIN_VALUE, Integer.MAX_VALUE};
        check.due("error(0) before a compile", NestPascal.NONE, x.error(0));
        check.due("error(1) before a compile", NestPascal.NONE, x.error(1));
        for (int what : others) {
            check.due("error(" + what + ") before a compile", NestPascal.NONE, x.error(what));
        }
        Check.put(x, "begin y end.");
        Check.compileThrows(x);
        for (int what : others) {
            check.due("error(" + what + ")", NestPascal.NONE, x.error(what));
        }
        check.due("error(0)", 2, x.error(0));
        check.due("error(1)", 6, x.error(1));
        Check.put(x, "begin end.");
        x.compile();
        check.due("error(0) behind a compile without one", NestPascal.NONE, x.error(0));
        check.due("error(1) behind a compile without one", NestPascal.NONE, x.error(1));
    }
}
