/** The sentences on the machine, and on start, run, about, cell, written and variable. */
final class MachineBoundaries {
    private static final String MIN = "8192*8192*32";
    private static final String MAX = "8192*8192*31+8192*8191+8191";
    private static final String ENDLESS = "begin while 1=1 do end.";
    private static final String FULL = "proc f;begin f end;begin f end.";
    private static final String NO_ELEMENT = "var a array 2;begin write 5;write a[2] end.";
    private static final String NO_QUOTIENT = "begin write 5;write 1/0 end.";
    /** 0 JMP 6, 1 JMP 2, 2 INT 4, 3 LIT 8, 4 STO 0 3, 5 OPR 2 0, 6 INT 4, 7 LIT 7, 8 STO 0 3, ... 11 CAL 0 1. */
    private static final String ONE_CALL = "var v;proc f(x,y);var w;begin w:=8 end;begin v:=7;f(5,6) end.";

    private final Check check;

    MachineBoundaries(Check check) {
        this.check = check;
    }

    void all() {
        check.sentence("THE MACHINE has CELLS 0 .. 199,", this::cells);
        check.sentence("a TOP (the uppermost one's place), a BASE, a next instruction.", this::topBaseNext);
        check.sentence("To link l times from the base: l times the base becomes what the cell there says.",
                this::links);
        check.sentence("CAL: into the three cells behind the top (the top stays) go: the base linked l times, the base,"
                + " the next instruction (behind CAL); the base is the first of them.", this::call);
        check.sentence("INT: the cells that come on are 0, but the first three stay.", this::cellsThatComeOn);
        check.sentence("END: the base and the next instruction become what the second and third cell of the frame say,"
                + " the top the cell before the frame less l.", this::end);
        check.sentence("At the beginning all cells are 0, top -1, base 0, next 0.", this::beginning);
        check.sentence("When the frame at 0 ends the machine is DONE (2).", this::done);
        check.sentence("It is FULL (3) where a cell beyond 199 would be put on", this::fullByPutOn);
        check.sentence("or written by CAL", this::fullByCall);
        check.sentence("or come on by INT;", this::fullByInt);
        check.sentence("TRAPPED by CHK (4),", this::trappedByIndex);
        check.sentence("by / 0 (5);", this::trappedByDivision);
        check.sentence("nothing of that step is done.", this::nothingIsDone);
        check.sentence("Ints wrap.", this::wrap);
        check.sentence("IDLE 0, RUNNING 1.", this::idleAndRunning);
        check.sentence("The machine is at the beginning, running, nothing is written: true;", this::startAnew);
        check.sentence("false if there is no program.", this::noProgram);
        check.sentence("Up to n steps, as long as it is running:", this::steps);
        check.sentence("how many (one that ends it counts).", this::stepThatEnds);
        check.sentence("IllegalArgumentException if n is not 0 .. 200.", this::wrongSteps);
        check.sentence("What 0: the state, 1: the next instruction, 2: the base, 3: the top,"
                + " 4: how many frames there are, 5: how many numbers were written since the start;", this::facts);
        check.sentence("as the machine was when it ended.", this::factsWhenEnded);
        check.sentence("All 0 but 3 (then -1) before a first start", this::factsBeforeStart);
        check.sentence("and behind compile", this::factsBehindCompile);
        check.sentence("(of 1 to 4, when it is DONE, too)", this::factsWhenDone);
        check.sentence("; NONE for another what.", this::noFact);
        check.sentence("A cell up to the top,", this::cellsUpToTop);
        check.sentence("or of the three at the base;", this::cellsAtBase);
        check.sentence("0 if it is none of these.", this::noCell);
        check.sentence("The number written k before the latest one (k = 0 .. 7);", this::latestNumbers);
        check.sentence("0 if there is none.", this::noNumber);
        check.sentence("A variable of the frame l links away at place a, as LOD would find it,", this::variables);
        check.sentence("if the machine is running", this::variablesWhileRunning);
        check.sentence("and that is a cell up to the top; else 0.", this::variablesUpToTop);
        check.sentence("(No more links than lead to the frame at 0.)", this::mostLinks);
    }

    private void cells() {
        NestPascal x = Check.started(Check.leavingFree(1, "begin write 7+1 end."));
        x.run(2);
        check.due("the top, with one cell free", 198, x.about(3));
        x.run(1);
        check.due("about with the last cell", "1 3 0 199 1 0", Check.facts(x));
        check.due("cells at the end", "0 7 0", Check.cells(x, 198, 200));
        check.due("cells at the beginning", "0 0", Check.cells(x, -1, 0));
        x.run(1);
        check.due("the state where cell 200 is needed", 3, x.about(0));
        // The last element of the last array; index and value take the two cells behind it.
        NestPascal y = Check.started(Check.leavingFree(2, "begin i[13]:=6;while 1=1 do end."));
        y.run(20);
        check.due("the highest cell of the array", "6 0 0", Check.cells(y, 197, 199));
    }

    private void topBaseNext() {
        NestPascal x = Check.started(ONE_CALL);
        String[] due = {"0 0 -1", "6 0 -1", "7 0 3", "8 0 4", "9 0 3", "10 0 4", "11 0 5", "1 6 5", "2 6 5", "3 6 9",
            "4 6 10", "5 6 9", "12 0 3", "0 0 -1"};
        for (String want : due) {
            check.due("next, base and top", want, x.about(1) + " " + x.about(2) + " " + x.about(3));
            x.run(1);
        }
        check.due("the state", 2, x.about(0));
    }

    private void links() {
        // Frames of p 1, of q 2, of r 3 and of s 4 links away from the program's; all are read from within s.
        String text = "var a;proc p;var b;proc q;var c;proc r;var d;proc s;begin write a;write b;write c;write d end;"
                + "begin d:=4;s end;begin c:=3;r end;begin b:=2;q end;begin a:=1;p end.";
        check.writes(text, "1 2 3 4");
        // Called by itself: each frame of q links to the p that it was called from.
        check.writes("proc p(n);proc q;begin if n<3 then p(n+1);write n end;begin q end;begin p(0) end.", "3 2 1 0");
        // No link: what stands at the base itself, and for CAL the base.
        NestPascal x = Check.before("var v;proc p;var w;proc q;begin q end;begin q end;begin p end.", 2);
        check.due("the link and the caller's base of q, called by p", "4 4", Check.cells(x, 8, 9));
        x.run(3);
        check.due("the link and the caller's base of q, called by q", "4 8", Check.cells(x, 11, 12));
        x.run(3);
        check.due("the link and the caller's base of q, called by q again", "4 11", Check.cells(x, 14, 15));
        // The frame around, not that of the caller.
        check.writes("var x;proc p;begin write x end;proc q;var x;begin x:=2;p end;begin x:=1;q end.", "1");
    }

    private void call() {
        NestPascal x = Check.before(ONE_CALL, 11);
        check.due("about before", "1 11 0 5 1 0", Check.facts(x));
        check.due("cells before", "0 0 0 7 5 6 0 0 0", Check.cells(x, 0, 8));
        x.run(1);
        check.due("about behind", "1 1 6 5 2 0", Check.facts(x));
        check.due("cells behind", "0 0 0 7 5 6 0 0 12 0", Check.cells(x, 0, 9));
        // With a link, and a base that is not 0: f calls g, g calls f.
        NestPascal y = Check.before("var v;proc f;proc g;begin f end;begin g end;begin f end.", 2);
        check.due("the frame of g", "4 4 8", Check.cells(y, 7, 9));
        check.due("about", "1 2 7 6 3 0", Check.facts(y));
        y.run(3);
        check.due("the frame of the second f", "0 7 5", Check.cells(y, 10, 12));
        check.due("about", "1 1 10 9 4 0", Check.facts(y));
    }

    private void cellsThatComeOn() {
        NestPascal x = Check.before("proc f;var a;b;begin a:=8;b:=9 end;proc g;var a;b;begin end;begin f;f;g end.", 9);
        check.due("where the frame of g stands", "1 9 3 2 2 0", Check.facts(x));
        String head = Check.cells(x, 3, 5);
        check.due("its first three cells before INT", "0 0 15", head);
        x.run(1);
        check.due("its first three cells behind INT", head, Check.cells(x, 3, 5));
        check.due("its cells that came on", "0 0", Check.cells(x, 6, 7));
        check.due("the top", 7, x.about(3));
        check.writes("proc f;var a;b array 2;begin a:=7;b[0]:=8;b[1]:=9 end;"
                + "proc g;var a;b array 2;begin write a;write b[0];write b[1] end;begin f;g end.", "0 0 0");
        // Three alone: all stay.
        NestPascal y = Check.before("var v;proc f;begin end;begin f end.", 2);
        check.due("the head before INT 3", "0 0 6", Check.cells(y, 4, 6));
        y.run(1);
        check.due("the head behind INT 3", "0 0 6", Check.cells(y, 4, 6));
        check.due("the top behind INT 3", 6, y.about(3));
    }

    private void end() {
        NestPascal x = Check.before(ONE_CALL, 5);
        check.due("about before", "1 5 6 9 2 0", Check.facts(x));
        x.run(1);
        check.due("about behind, less two parameters", "1 12 0 3 1 0", Check.facts(x));
        NestPascal y = Check.before("var v;proc f;begin end;begin f end.", 3);
        check.due("about before", "1 3 4 6 2 0", Check.facts(y));
        y.run(1);
        check.due("about behind, without parameters", "1 6 0 3 1 0", Check.facts(y));
        // The caller's frame, not the one around.
        NestPascal z = Check.before("proc f;begin end;proc g(a,b,c);begin f end;begin g(1,2,3) end.", 3);
        check.due("about before", "1 3 9 11 3 0", Check.facts(z));
        z.run(1);
        check.due("about behind", "1 7 6 8 2 0", Check.facts(z));
        z.run(1);
        check.due("about behind the end of g, less three", "1 13 0 2 1 0", Check.facts(z));
    }

    private void beginning() {
        NestPascal x = Check.started("var v;begin v:=7;write v end.");
        check.due("about", "1 0 0 -1 1 0", Check.facts(x));
        check.due("cells", "0 0 0 0", Check.cells(x, 0, 3));
        Check.runOut(x);
        x.start();
        check.due("about once more", "1 0 0 -1 1 0", Check.facts(x));
        // What an earlier run left in the cells is gone: a frame that calls write upon is 0 again.
        NestPascal y = Check.started("var v;begin if v=0 then v:=7;write v;while 1=1 do end.");
        y.run(30);
        check.due("cell(3)", 7, y.cell(3));
        y.start();
        y.run(2);
        check.due("cell(3) once more", 0, y.cell(3));
        check.due("cells 0 .. 2", "0 0 0", Check.cells(y, 0, 2));
        y.run(30);
        check.due("written(0)", 7, y.written(0));
    }

    private void done() {
        NestPascal x = Check.started("proc f;begin end;begin f end.");
        x.run(5);
        check.due("about before f ends", "1 3 3 5 2 0", Check.facts(x));
        x.run(1);
        check.due("about behind the end of f's frame", "1 6 0 2 1 0", Check.facts(x));
        check.due("run(200)", 1, x.run(200));
        check.due("about behind the end of the frame at 0", "2 0 0 -1 0 0", Check.facts(x));
        check.due("run(200) when done", 0, x.run(200));
    }

    private void fullByPutOn() {
        check.ends(Check.leavingFree(1, "begin write 7 end."), "2 0 0 -1 0 1");
        check.ends(Check.leavingFree(0, "begin write 7 end."), "3 2 0 199 1 0");
        check.ends(Check.leavingFree(1, "begin write x end."), "2 0 0 -1 0 1");
        check.ends(Check.leavingFree(0, "begin write x end."), "3 2 0 199 1 0");
        check.ends(Check.leavingFree(2, "begin write 7+x end."), "2 0 0 -1 0 1");
        check.ends(Check.leavingFree(1, "begin write 7+x end."), "3 3 0 199 1 0");
        check.ends(Check.leavingFree(1, "begin write x+7 end."), "3 3 0 199 1 0");
        check.ends(Check.leavingFree(3, "begin write 1+(2+3) end."), "2 0 0 -1 0 1");
        check.ends(Check.leavingFree(2, "begin write 1+(2+3) end."), "3 4 0 199 1 0");
        // With the last cell in use, what takes off as much as it puts on goes well.
        check.ends(Check.leavingFree(1, "begin write -a[0];x:=1 end."), "2 0 0 -1 0 1");
        check.ends(Check.leavingFree(2, "begin a[29]:=x;if x=0 then write 9-x end."), "2 0 0 -1 0 1");
        check.ends(Check.leavingFree(1, "begin a[29]:=x end."), "3 4 0 199 1 0");
    }

    private void fullByCall() {
        String text = "proc f;begin end;begin f end.";
        check.ends(Check.leavingFree(3, text), "2 0 0 -1 0 0");
        check.ends(Check.leavingFree(2, text), "3 5 0 197 1 0");
        check.ends(Check.leavingFree(1, text), "3 5 0 198 1 0");
        check.ends(Check.leavingFree(0, text), "3 5 0 199 1 0");
        // With an argument it takes one cell more.
        String argument = "proc f(p);begin end;begin f(1) end.";
        check.ends(Check.leavingFree(4, argument), "2 0 0 -1 0 0");
        check.ends(Check.leavingFree(3, argument), "3 6 0 197 1 0");
        check.ends(FULL, "3 3 195 197 66 0");
    }

    private void fullByInt() {
        check.ends(Check.leavingFree(0, "begin end."), "2 0 0 -1 0 0");
        check.ends(Check.leavingFree(-1, "begin end."), "3 1 0 -1 1 0");
        String text = "proc f;var v;begin end;begin f end.";
        check.ends(Check.leavingFree(4, text), "2 0 0 -1 0 0");
        check.ends(Check.leavingFree(3, text), "3 2 197 196 2 0");
        String array = "proc f;var v array 30;begin end;begin f end.";
        check.ends(Check.leavingFree(33, array), "2 0 0 -1 0 0");
        check.ends(Check.leavingFree(32, array), "3 2 168 167 2 0");
    }

    private void trappedByIndex() {
        String front = "var a array 3;begin ";
        check.ends(front + "a[0]:=1;a[2]:=1;write a[0]+a[2] end.", "2 0 0 -1 0 1");
        check.ends(front + "a[3]:=1 end.", "4 3 0 6 1 0");
        check.ends(front + "a[-1]:=1 end.", "4 4 0 6 1 0");
        check.ends(front + "write a[3] end.", "4 3 0 6 1 0");
        check.ends(front + "write a[-1] end.", "4 4 0 6 1 0");
        check.ends(front + "write a[" + MIN + "] end.", "4 7 0 6 1 0");
        check.ends("var a array 1;begin write a[0];write a[1] end.", "4 7 0 4 1 1");
        check.ends("var a array 30;begin write a[29];write a[30] end.", "4 7 0 33 1 1");
    }

    private void trappedByDivision() {
        check.ends("begin write 1/1;write 0/1;write 1/(-1) end.", "2 0 0 -1 0 3");
        check.ends("begin write 1/0 end.", "5 4 0 4 1 0");
        check.ends("begin write 0/0 end.", "5 4 0 4 1 0");
        check.ends("var v;begin write 9;write 7/v end.", "5 6 0 5 1 1");
        check.ends("begin write 1/(2-1);write 1/(1-1) end.", "5 12 0 4 1 1");
        check.ends("begin write " + MIN + "/0 end.", "5 8 0 4 1 0");
        // By what is divided, not what divides.
        check.ends("var v;begin write v/7;write v*v end.", "2 0 0 -1 0 2");
    }

    private void nothingIsDone() {
        endsUntouched(Check.leavingFree(0, "begin write 7 end."), 3);
        endsUntouched(Check.leavingFree(0, "begin write x end."), 3);
        endsUntouched(Check.leavingFree(-1, "begin end."), 3);
        endsUntouched(Check.leavingFree(3, "proc f;var v;begin end;begin f end."), 3);
        endsUntouched(Check.leavingFree(2, "proc f;begin end;begin f end."), 3);
        endsUntouched(Check.leavingFree(1, "proc f;begin end;begin f end."), 3);
        endsUntouched(Check.leavingFree(0, "proc f;begin end;begin f end."), 3);
        endsUntouched("var a array 2;begin a[1]:=5;a[2]:=6 end.", 4);
        endsUntouched("var a array 2;begin a[1]:=5;write a[-1] end.", 4);
        endsUntouched("var v;begin v:=5;write v;write v/0 end.", 5);
    }

    /** Runs step by step till the machine ends, and holds what it was before the last step against what it is. */
    private void endsUntouched(String text, int state) {
        NestPascal x = Check.started(text);
        String before = "";
        for (int i = 0; i < 20 && x.about(0) == 1; i++) {
            before = shown(x);
            check.due("run(1)", 1, x.run(1));
        }
        check.due("the state behind " + text, state, x.about(0));
        check.due("all but the state behind " + text, before, shown(x));
        check.due("run(1) behind " + text, 0, x.run(1));
        check.due("all but the state of " + text, before, shown(x));
    }

    /** All that can be seen of the machine near its base and its top, but the state. */
    private static String shown(NestPascal x) {
        int top = x.about(3);
        return Check.facts(x).substring(2) + ", " + Check.cells(x, x.about(2), x.about(2) + 2) + ", "
                + Check.cells(x, top - 2, top + 3) + ", " + x.written(0);
    }

    private void wrap() {
        check.writes("begin write " + MAX + ";write " + MAX + "+1;write " + MAX + "+2 end.",
                "2147483647 -2147483648 -2147483647");
        check.writes("begin write " + MIN + ";write " + MIN + "-1;write " + MIN + "-2;write " + MIN + "+1 end.",
                "-2147483648 2147483647 2147483646 -2147483647");
        check.writes("begin write -(" + MIN + ");write -(" + MIN + "+1);write (" + MIN + ")/(-1) end.",
                "-2147483648 2147483647 -2147483648");
        check.writes("begin write 8192*8192*31;write " + MIN + ";write 8192*8192*33;write 8192*8192*64 end.",
                "2080374784 -2147483648 -2080374784 0");
        check.writes("begin write 9999*9999*9999;write 9999*9999*21;write 9999*9999*22 end.",
                9999 * 9999 * 9999 + " 2099580021 " + 9999 * 9999 * 22);
        check.writes("begin write (" + MAX + ")*2;write (" + MIN + ")*(-1) end.", "-2 -2147483648");
    }

    private void idleAndRunning() {
        NestPascal x = new NestPascal();
        check.due("the state of a new object", 0, x.about(0));
        Check.put(x, ENDLESS);
        check.due("the state before compile", 0, x.about(0));
        x.compile();
        check.due("the state behind compile", 0, x.about(0));
        check.due("run(5) when idle", 0, x.run(5));
        check.due("the state behind run", 0, x.about(0));
        x.start();
        check.due("the state behind start", 1, x.about(0));
        check.due("run(200) when running", 200, x.run(200));
        check.due("the state behind 200 steps", 1, x.about(0));
    }

    private void startAnew() {
        String[] texts = {"begin write 5;while 1=1 do end.", "begin write 5 end.",
            "proc f;begin f end;begin write 5;f end.", NO_ELEMENT, NO_QUOTIENT};
        for (int state = 1; state <= 5; state++) {
            NestPascal x = Check.compiled(texts[state - 1]);
            check.due("start() when idle", true, x.start());
            check.due("about", "1 0 0 -1 1 0", Check.facts(x));
            int steps = Check.runOut(x);
            check.due("the state", state, x.about(0));
            check.due("written(0)", 5, x.written(0));
            check.due("start() in state " + state, true, x.start());
            check.due("about then", "1 0 0 -1 1 0", Check.facts(x));
            check.due("written(0) then", 0, x.written(0));
            check.due("cells then", "0 0 0 0", Check.cells(x, 0, 3));
            check.due("the steps once more", steps, Check.runOut(x));
            check.due("the state once more", state, x.about(0));
            check.due("about(5) once more", 1, x.about(5));
        }
    }

    private void noProgram() {
        NestPascal x = new NestPascal();
        check.due("start() of a new object", false, x.start());
        Check.put(x, "begin end.");
        check.due("start() with a text that is not compiled", false, x.start());
        check.due("about behind them", "0 0 0 -1 0 0", Check.facts(x));
        check.due("run(200)", 0, x.run(200));
        Check.put(x, "?");
        check.due("whether compile() throws", true, Check.compileThrows(x));
        check.due("start() behind an error", false, x.start());
        Check.put(x, "begin end.");
        x.compile();
        check.due("start() with a program", true, x.start());
        check.due("whether compile() throws", true, Check.compileThrows(x));
        check.due("start() with the program before an error", true, x.start());
    }

    private void steps() {
        NestPascal x = Check.started(ENDLESS);
        check.due("run(0)", 0, x.run(0));
        check.due("about(1) behind no step", "0 -1", x.about(1) + " " + x.about(3));
        check.due("run(1)", 1, x.run(1));
        check.due("about(1) behind one", "1 -1", x.about(1) + " " + x.about(3));
        check.due("run(2)", 2, x.run(2));
        check.due("about(1) behind three", "3 3", x.about(1) + " " + x.about(3));
        // Of the five steps of a round: two before the first, then forty rounds less two steps.
        x.start();
        check.due("run(199)", 199, x.run(199));
        check.due("about(1) behind 199", 2 + 197 % 5, x.about(1));
        check.due("run(200)", 200, x.run(200));
        check.due("about(1) behind 399", 2 + 397 % 5, x.about(1));
        NestPascal y = Check.started("begin end.");
        check.due("run(2), less than it takes", 2, y.run(2));
        check.due("the state", 1, y.about(0));
        check.due("run(200), more than it takes", 1, y.run(200));
        check.due("run(1) when it does not run", 0, y.run(1));
        check.due("run(0) when it does not run", 0, y.run(0));
    }

    private void stepThatEnds() {
        String[] texts = {"begin end.", FULL, NO_ELEMENT, NO_QUOTIENT};
        int[] steps = {3, 198, 6, 7};
        for (int i = 0; i < texts.length; i++) {
            NestPascal x = Check.started(texts[i]);
            check.due("run(200) of " + texts[i], steps[i], x.run(200));
            check.due("the state", i + 2, x.about(0));
            x.start();
            check.due("run without the last step", steps[i] - 1, x.run(steps[i] - 1));
            check.due("the state", 1, x.about(0));
            check.due("run of the last step", 1, x.run(200));
            check.due("the state", i + 2, x.about(0));
            x.start();
            check.due("run with the last step", steps[i], x.run(steps[i]));
            check.due("the state", i + 2, x.about(0));
            check.due("run(200) when it has ended", 0, x.run(200));
        }
    }

    private void wrongSteps() {
        int[] wrong = {-1, -2, -200, 201, 202, 1000, Integer.MIN_VALUE, Integer.MAX_VALUE};
        NestPascal fresh = new NestPascal();
        NestPascal x = Check.started(ENDLESS);
        NestPascal done = Check.started("begin end.");
        done.run(3);
        x.run(4);
        String before = Check.facts(x);
        for (int n : wrong) {
            check.due("whether run(" + n + ") throws", true, Check.runThrows(x, n));
            check.due("about behind run(" + n + ")", before, Check.facts(x));
            check.due("whether run(" + n + ") throws without a program", true, Check.runThrows(fresh, n));
            check.due("whether run(" + n + ") throws when done", true, Check.runThrows(done, n));
        }
        for (int n : new int[] {0, 1, 199, 200}) {
            check.due("run(" + n + ")", n, x.run(n));
            check.due("whether run(" + n + ") throws without a program", false, Check.runThrows(fresh, n));
            check.due("whether run(" + n + ") throws when done", false, Check.runThrows(done, n));
        }
    }

    private void facts() {
        NestPascal x = Check.started("proc f(n);begin write n;if n>0 then f(n-1) end;begin f(2) end.");
        String[] due = {"1 0 0 -1 1 0", "1 14 0 -1 1 0", "1 15 0 2 1 0", "1 16 0 3 1 0", "1 1 4 3 2 0"};
        for (String want : due) {
            check.due("about", want, Check.facts(x));
            x.run(1);
        }
        Check.runOut(x);
        check.due("about(5)", 3, x.about(5));
        check.due("about(0)", 2, x.about(0));
        // The most frames that fit, and numbers beyond the eight that are kept.
        NestPascal deepest = Check.started(FULL);
        check.due("frames at the beginning", 1, deepest.about(4));
        deepest.run(3);
        check.due("frames behind the first CAL", 2, deepest.about(4));
        deepest.run(200);
        check.due("frames when full", 66, deepest.about(4));
        NestPascal many = Check.started("var i;begin while i<300 do begin i:=i+1;write i end end.");
        for (int i = 0; i < 25; i++) {
            many.run(200);
        }
        check.due("about(5) of many", 300, many.about(5));
        check.due("written(0) of many", 300, many.written(0));
        many.start();
        check.due("about(5) since the start", 0, many.about(5));
    }

    private void factsWhenEnded() {
        check.ends("proc f(n);begin f(n) end;begin write 8;f(1) end.", "3 4 196 199 50 1");
        check.ends("var a array 2;proc f;begin write a[2] end;begin write 8;f end.", "4 4 5 8 2 1");
        check.ends("proc f(n);begin write 1/n end;begin write 8;f(0) end.", "5 5 4 8 2 1");
        NestPascal x = Check.started("proc f(n);begin write 1/n end;begin write 8;f(0) end.");
        Check.runOut(x);
        x.write(' ');
        x.run(200);
        Check.compileThrows(x);
        check.due("about behind other calls", "5 5 4 8 2 1", Check.facts(x));
        check.due("cells when it has ended", "0 0 0 0 0 0 13 1 0 0", Check.cells(x, 0, 9));
    }

    private void factsBeforeStart() {
        NestPascal x = new NestPascal();
        check.due("about of a new object", "0 0 0 -1 0 0", Check.facts(x));
        Check.put(x, ENDLESS);
        check.due("about with a text", "0 0 0 -1 0 0", Check.facts(x));
        x.compile();
        check.due("about with a program", "0 0 0 -1 0 0", Check.facts(x));
        x.run(7);
        check.due("about behind run", "0 0 0 -1 0 0", Check.facts(x));
        x.start();
        check.due("about behind the first start", "1 0 0 -1 1 0", Check.facts(x));
    }

    private void factsBehindCompile() {
        String[] texts = {"begin write 5;while 1=1 do end.", "begin write 5 end.",
            "proc f;begin f end;begin write 5;f end.", NO_ELEMENT, NO_QUOTIENT};
        for (String text : texts) {
            NestPascal x = Check.started(text);
            Check.runOut(x);
            String before = Check.facts(x);
            Check.put(x, "begin end");
            Check.compileThrows(x);
            check.due("about behind a compile that throws", before, Check.facts(x));
            Check.put(x, "begin end.");
            x.compile();
            check.due("about behind compile", "0 0 0 -1 0 0", Check.facts(x));
        }
    }

    private void factsWhenDone() {
        check.ends("var v;proc f(n);begin if n>0 then f(n-1);write n end;begin v:=7;f(2);write v end.", "2 0 0 -1 0 4");
        check.ends("begin end.", "2 0 0 -1 0 0");
        NestPascal x = Check.started("var v;begin write 9 end.");
        x.run(4);
        check.due("about before the last step", "1 4 0 3 1 1", Check.facts(x));
        x.run(1);
        check.due("about behind it", "2 0 0 -1 0 1", Check.facts(x));
    }

    private void noFact() {
        int[] others = {-1, 6, 7, Integer.MIN_VALUE, Integer.MAX_VALUE};
        NestPascal x = new NestPascal();
        NestPascal y = Check.started("begin write 5;write 6;while 1=1 do end.");
        y.run(20);
        for (int what : others) {
            check.due("about(" + what + ") of a new object", NestPascal.NONE, x.about(what));
            check.due("about(" + what + ") while running", NestPascal.NONE, y.about(what));
        }
        check.due("about(0), the first there is", 1, y.about(0));
        check.due("about(5), the last there is", 2, y.about(5));
    }

    private void cellsUpToTop() {
        NestPascal x = Check.started("var v;begin v:=7;write 8+9 end.");
        x.run(6);
        check.due("the top", 5, x.about(3));
        check.due("cells 0 .. 6", "0 0 0 7 8 9 0", Check.cells(x, 0, 6));
        x.run(1);
        check.due("the top", 4, x.about(3));
        check.due("cells 3 .. 5, where 9 was taken off", "7 17 0", Check.cells(x, 3, 5));
        x.run(1);
        check.due("cells 3 .. 5, where 17 was taken off", "7 0 0", Check.cells(x, 3, 5));
        NestPascal all = Check.started(Check.leavingFree(1, "begin write 7 end."));
        all.run(3);
        check.due("cells 198 .. 200 with top 199", "0 7 0", Check.cells(all, 198, 200));
        // Also when it has ended.
        NestPascal ended = Check.started("var v;begin v:=7;write 8/0 end.");
        Check.runOut(ended);
        check.due("cells when trapped", "7 8 0 0", Check.cells(ended, 3, 6));
        x.run(200);
        check.due("cells when done", "0 0 0 0 0 0", Check.cells(x, 0, 5));
    }

    private void cellsAtBase() {
        NestPascal x = Check.before("var v;proc f(n);var w;begin w:=n;f(n) end;begin v:=7;f(5) end.", 1);
        check.due("about behind CAL", "1 1 5 4 2 0", Check.facts(x));
        check.due("cells below the base", "7 5", Check.cells(x, 3, 4));
        check.due("the three at the base, beyond the top", "0 0 13", Check.cells(x, 5, 7));
        check.due("the cell behind them", 0, x.cell(8));
        x.run(6);
        check.due("about behind the next CAL", "1 1 10 9 3 0", Check.facts(x));
        check.due("the frame below", "0 0 13 5 5", Check.cells(x, 5, 9));
        check.due("the three at the base", "0 5 7", Check.cells(x, 10, 12));
        check.due("the cell behind them", 0, x.cell(13));
        // The highest three that there are.
        NestPascal high = Check.before(Check.leavingFree(3, "proc f;begin end;begin f end."), 1);
        check.due("about behind CAL", "1 1 197 196 2 0", Check.facts(high));
        check.due("the last cells", "0 0 6 0", Check.cells(high, 197, 200));
    }

    private void noCell() {
        int[] none = {-1, -2, 200, 201, Integer.MIN_VALUE, Integer.MAX_VALUE};
        NestPascal full = Check.started(FULL);
        full.run(200);
        NestPascal fresh = new NestPascal();
        for (int k : none) {
            check.due("cell(" + k + ") when full", 0, full.cell(k));
            check.due("cell(" + k + ") of a new object", 0, fresh.cell(k));
        }
        check.due("the last cells when full", "0 192 4 0 0", Check.cells(full, 195, 199));
        // What was taken off, or belonged to a frame that ended, is none of these.
        NestPascal x = Check.before("var v;proc f;var w;x;begin w:=8;x:=9 end;begin v:=7;f;write v end.", 11);
        check.due("about behind f", "1 11 0 3 1 0", Check.facts(x));
        check.due("the cells of the frame that ended", "7 0 0 0 0 0 0", Check.cells(x, 3, 9));
        // A new frame at the same place: only its three are shown before INT.
        NestPascal y = Check.before("proc f;var w;begin w:=8 end;proc g;var w;begin end;begin f;g end.", 6);
        check.due("about in g", "1 6 3 2 2 0", Check.facts(y));
        check.due("cells", "0 0 12 0", Check.cells(y, 3, 6));
    }

    private void latestNumbers() {
        NestPascal eight = Check.started("var i;begin while i<8 do begin i:=i+1;write i*i end;while 1=1 do end.");
        Check.runOut(eight);
        for (int k = 0; k <= 7; k++) {
            check.due("written(" + k + ") of eight", (8 - k) * (8 - k), eight.written(k));
        }
        check.due("written(8) of eight", 0, eight.written(8));
        NestPascal nine = Check.started("var i;begin while i<9 do begin i:=i+1;write i*i end end.");
        Check.runOut(nine);
        for (int k = 0; k <= 7; k++) {
            check.due("written(" + k + ") of nine", (9 - k) * (9 - k), nine.written(k));
        }
        check.due("written(8) of nine", 0, nine.written(8));
        check.due("about(5) of nine", 9, nine.about(5));
        NestPascal many = Check.started("var i;begin while i<100 do begin i:=i+1;write -i end end.");
        Check.runOut(many);
        for (int k = 0; k <= 7; k++) {
            check.due("written(" + k + ") of a hundred", k - 100, many.written(k));
        }
    }

    private void noNumber() {
        NestPascal x = Check.started("begin write 5;write 6;while 1=1 do end.");
        check.due("written(0) at the beginning", 0, x.written(0));
        x.run(4);
        check.due("written(0), one written", 5, x.written(0));
        check.due("written(1), one written", 0, x.written(1));
        x.run(2);
        check.due("written(0), two written", 6, x.written(0));
        check.due("written(1), two written", 5, x.written(1));
        for (int k : new int[] {-1, -2, 2, 7, 8, 9, Integer.MIN_VALUE, Integer.MAX_VALUE}) {
            check.due("written(" + k + "), two written", 0, x.written(k));
        }
        x.start();
        check.due("written(0) behind start", 0, x.written(0));
        check.due("written(1) behind start", 0, x.written(1));
        NestPascal many = Check.started("var i;begin while i<20 do begin i:=i+1;write i end end.");
        Check.runOut(many);
        check.due("written(7) of twenty", 13, many.written(7));
        for (int k : new int[] {-1, 8, 9, 15, 19, Integer.MIN_VALUE, Integer.MAX_VALUE}) {
            check.due("written(" + k + ") of twenty", 0, many.written(k));
        }
    }

    private static NestPascal threeFrames() {
        NestPascal x = Check.started("var x;proc f(p,q);var y;proc g(r);begin while 1=1 do end;begin y:=4;g(5) end;"
                + "begin x:=1;f(2,3) end.");
        x.run(50);
        return x;
    }

    private void variables() {
        NestPascal x = threeFrames();
        check.due("frames", 3, x.about(4));
        check.due("r", 5, x.variable(0, -1));
        check.due("p", 2, x.variable(1, -2));
        check.due("q", 3, x.variable(1, -1));
        check.due("y", 4, x.variable(1, 3));
        check.due("x", 1, x.variable(2, 3));
        // The links of the text, not the calls': p was called by q.
        NestPascal y = Check.started("var x;proc p;begin while 1=1 do end;proc q;var x;begin x:=2;p end;"
                + "begin x:=1;q end.");
        y.run(50);
        check.due("frames", 3, y.about(4));
        check.due("the program's x", 1, y.variable(1, 3));
        // No frame is fewer than no links away.
        for (int l : new int[] {-1, -2, Integer.MIN_VALUE}) {
            check.due("variable(" + l + ", -1)", 0, x.variable(l, -1));
            check.due("variable(" + l + ", 3)", 0, y.variable(l, 3));
        }
    }

    private void variablesWhileRunning() {
        NestPascal x = Check.started("var v;begin v:=7;write 1 end.");
        x.run(5);
        check.due("variable(0, 3) while running", 7, x.variable(0, 3));
        x.run(1);
        check.due("variable(0, 3) before the last step", 7, x.variable(0, 3));
        x.run(1);
        check.due("variable(0, 3) when done", 0, x.variable(0, 3));
        String[] texts = {"var v;proc f;begin f end;begin v:=7;f end.", "var v;a array 2;begin v:=7;write a[2] end.",
            "var v;begin v:=7;write 1/0 end."};
        for (int i = 0; i < texts.length; i++) {
            NestPascal y = Check.started(texts[i]);
            int steps = y.run(200);
            check.due("the state", i + 3, y.about(0));
            check.due("cell(3)", 7, y.cell(3));
            check.due("variable(0, 3) when it has ended", 0, y.variable(0, 3));
            check.due("variable(1, 3) when it has ended", 0, y.variable(1, 3));
            y.start();
            y.run(steps - 1);
            check.due("variable(1, 3) one step before", 7, y.variable(1, 3));
            Check.put(y, "begin end.");
            y.compile();
            check.due("variable(0, 3) when idle", 0, y.variable(0, 3));
        }
    }

    private void variablesUpToTop() {
        NestPascal x = Check.started("var v;begin v:=7;write 8+9;while 1=1 do end.");
        check.due("variable(0, 0) at the beginning", 0, x.variable(0, 0));
        x.run(6);
        check.due("the top", 5, x.about(3));
        check.due("variable(0, 3)", 7, x.variable(0, 3));
        check.due("variable(0, 5), at the top", 9, x.variable(0, 5));
        check.due("variable(0, 6), beyond it", 0, x.variable(0, 6));
        x.run(1);
        check.due("variable(0, 4), at the top", 17, x.variable(0, 4));
        check.due("variable(0, 5), beyond it", 0, x.variable(0, 5));
        check.due("variable(0, -1), before cell 0", 0, x.variable(0, -1));
        // Behind CAL the three at the base are beyond the top; LOD would not find a variable there.
        NestPascal y = Check.before("var v;proc f(n);begin end;begin v:=7;f(5) end.", 1);
        check.due("cell(7), the third at the base", 9, y.cell(7));
        check.due("variable(0, 2), beyond the top", 0, y.variable(0, 2));
        check.due("variable(0, -1), at the top", 5, y.variable(0, -1));
        check.due("variable(0, -2)", 7, y.variable(0, -2));
        check.due("variable(0, -5), cell 0", 0, y.variable(0, -5));
        check.due("variable(0, -6), before cell 0", 0, y.variable(0, -6));
        y.run(2);
        check.due("variable(0, 2) behind INT", 9, y.variable(0, 2));
        NestPascal all = Check.started(Check.leavingFree(1, "begin write 7 end."));
        all.run(3);
        check.due("variable(0, 199), the last cell", 7, all.variable(0, 199));
        for (int a : new int[] {200, 201, Integer.MAX_VALUE, Integer.MIN_VALUE, -1}) {
            check.due("variable(0, " + a + ")", 0, all.variable(0, a));
            check.due("variable(1, " + a + ")", 0, all.variable(1, a));
        }
        for (int a : new int[] {Integer.MAX_VALUE, Integer.MIN_VALUE}) {
            check.due("variable(0, " + a + ") of a base above 0", 0, y.variable(0, a));
        }
    }

    private void mostLinks() {
        NestPascal x = threeFrames();
        check.due("variable(2, 3), as many links as lead there", 1, x.variable(2, 3));
        // Read so: further links lead nowhere else, as the frame at 0 links to itself.
        for (int l : new int[] {3, 4, 5, 100, Integer.MAX_VALUE}) {
            check.due("variable(" + l + ", 3)", 1, x.variable(l, 3));
            check.due("variable(" + l + ", -1)", 0, x.variable(l, -1));
        }
        NestPascal y = Check.started("var v;begin v:=7;while 1=1 do end.");
        y.run(10);
        check.due("variable(0, 3) in the frame at 0", 7, y.variable(0, 3));
        check.due("variable(1, 3) in the frame at 0", 7, y.variable(1, 3));
    }
}
