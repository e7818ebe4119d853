/** The sentences on the instructions, on the code of each piece, and on code. */
final class CodeBoundaries {
    private static final String MIN = "8192*8192*32";
    private static final String MAX = "8192*8192*31+8192*8191+8191";

    private final Check check;

    CodeBoundaries(Check check) {
        this.check = check;
    }

    void all() {
        check.sentence("x is the cell at place a of the frame l LINKS away.", this::cellOfFrame);
        check.sentence("0 LIT: a is put on.", this::lit);
        check.sentence("1 LOD: x is.", this::lod);
        check.sentence("2 STO: the uppermost, which is taken off, goes into x.", this::sto);
        check.sentence("3 LDX: i is taken off, the cell i behind x put on.", this::ldx);
        check.sentence("4 STX: v, then i are taken off, v goes into the cell i behind x.", this::stx);
        check.sentence("5 CAL: the procedure at instruction a.", this::cal);
        check.sentence("6 INT: a cells more.", this::cellsMore);
        check.sentence("7 JMP: on at a.", this::jmp);
        check.sentence("8 JPC: the uppermost is taken off; if it is 0, on at a.", this::jpc);
        check.sentence("9 OPR, by a: 0 the END of a block (l: how many parameters);", this::endOfBlock);
        check.sentence("1 the uppermost with its sign turned;", this::signTurned);
        check.sentence("of two that are taken off, the first one put on first: 2 +, 3 -, 4 *,", this::sums);
        check.sentence("5 / (rounded towards 0),", this::quotients);
        check.sentence("6 =, 7 #, 8 <, 9 > (1 or 0);", this::relations);
        check.sentence("10 the uppermost is taken off and WRITTEN.", this::written);
        check.sentence("11 CHK: the uppermost must be 0 .. a - 1.", this::chk);
        check.sentence("What is not told of l and a is 0.", this::notTold);
        check.sentence("A block: JMP behind its procedures' code; that, in order; INT 3 and the cells of its variables;"
                + " its statements' code; OPR 0.", this::blocks);
        check.sentence("Of n parameters the places are -n .. -1, of variables 3 and on, in order.", this::places);
        check.sentence("An element: its index, CHK its size, LDX; given a value: index, CHK, the value, STX.",
                this::elements);
        check.sentence("A call: the arguments, CAL to the procedure's JMP;", this::calls);
        check.sentence("l is the level at which it stands less the level of the block in which the name was declared"
                + " (for LOD, STO, LDX, STX, CAL).", this::links);
        check.sentence("if: condition, JPC, the statement, and with else JMP, the other one:"
                + " JPC to behind the JMP, JMP behind all; without: JPC behind all.", this::ifs);
        check.sentence("while: condition, JPC behind all, the statement, JMP to the condition.", this::whiles);
        check.sentence("With a sign: the first term, then OPR 1.", this::signs);
        check.sentence("Instruction k of the program's code: what 0 the operation, 1 l, 2 a;", this::instructions);
        check.sentence("0 if there is none or no such what.", this::noInstruction);
        check.sentence("How many there are if k is -1.", this::countOfInstructions);
    }

    /** Does one step and tells what is next, where the top is, and the uppermost cell. */
    private static String step(NestPascal x) {
        x.run(1);
        return x.about(1) + " " + x.about(3) + " " + x.cell(x.about(3));
    }

    private void cellOfFrame() {
        check.writes("var a;proc p;var b;proc q;var c;proc r;var d;proc s;begin write a;write b;write c;write d end;"
                + "begin d:=4;s end;begin c:=3;r end;begin b:=2;q end;begin a:=1;p end.", "1 2 3 4");
        check.writes("var a;b;proc p;var a;begin a:=3;write a;b:=a end;begin a:=1;b:=2;p;write a;write b end.",
                "3 1 3");
        // The frame around, not that of the caller.
        check.writes("var x;proc p;begin write x end;proc q;var x;begin x:=2;p end;begin x:=1;q end.", "1");
    }

    private void lit() {
        NestPascal x = Check.before("begin write 9999;write 0 end.", 2);
        check.due("the top before", 2, x.about(3));
        check.due("LIT 9999", "3 3 9999", step(x));
        x.run(1);
        check.due("the top before", 2, x.about(3));
        check.due("LIT 0, where another number lay", "5 3 0", step(x));
    }

    private void lod() {
        NestPascal x = Check.before("var u;v;w;begin u:=7;w:=9;write u;write w;write v end.", 6);
        check.due("LOD 0 3, the first variable", "7 6 7", step(x));
        check.due("the variable keeps its value", 7, x.cell(3));
        x.run(1);
        check.due("LOD 0 5, the last variable", "9 6 9", step(x));
        x.run(1);
        check.due("LOD 0 4, a variable that is 0", "11 6 0", step(x));
        check.writes("proc f(p,q,r);begin write p;write q;write r end;begin f(1,2,3) end.", "1 2 3");
    }

    private void sto() {
        NestPascal x = Check.before("var u;v;w;begin u:=7;w:=9;u:=0 end.", 3);
        check.due("STO 0 3, the first variable", "4 5 0", step(x));
        check.due("the variables", "7 0 0", Check.cells(x, 3, 5));
        x.run(1);
        check.due("STO 0 5, the last variable", "6 5 9", step(x));
        check.due("the variables", "7 0 9", Check.cells(x, 3, 5));
        x.run(1);
        check.due("STO 0 3 of 0", "8 5 9", step(x));
        check.due("the variables", "0 0 9", Check.cells(x, 3, 5));
        check.writes("proc f(p,q,r);begin p:=4;r:=6;write p;write q;write r end;begin f(1,2,3) end.", "4 2 6");
    }

    private void ldx() {
        String text = "var x;a array 3;y;begin x:=7;y:=9;a[0]:=1;a[1]:=2;a[2]:=3;write a[0];write a[1];write a[2] end.";
        check.writes(text, "1 2 3");
        // 18 LIT 0, 19 CHK 3, 20 LDX 0 4 ... 26 LIT 2, 27 CHK 3, 28 LDX 0 4
        NestPascal first = Check.before(text, 20);
        check.due("the top before", 8, first.about(3));
        check.due("LDX of the first", "21 8 1", step(first));
        NestPascal last = Check.before(text, 28);
        check.due("the index before", 2, last.cell(8));
        check.due("LDX of the last", "29 8 3", step(last));
        check.due("the cells keep their values", "7 1 2 3 9", Check.cells(last, 3, 7));
    }

    private void stx() {
        // 2 LIT 0, 3 CHK 3, 4 LIT 2, 5 STX 0 4, 6 LIT 2, 7 CHK 3, 8 LIT 1, 9 STX 0 4
        String text = "var x;a array 3;y;begin a[0]:=2;a[2]:=1 end.";
        NestPascal first = Check.before(text, 5);
        check.due("index and value before", "0 2", Check.cells(first, 8, 9));
        check.due("STX into the first", "6 7 0", step(first));
        check.due("the cells", "0 2 0 0 0", Check.cells(first, 3, 7));
        NestPascal last = Check.before(text, 9);
        check.due("index and value before", "2 1", Check.cells(last, 8, 9));
        check.due("STX into the last", "10 7 0", step(last));
        check.due("the cells", "0 2 0 1 0", Check.cells(last, 3, 7));
    }

    private void cal() {
        String text = "proc f;begin end;proc g;begin end;begin f;g end.";
        NestPascal first = Check.before(text, 8);
        check.due("CAL 0 1, the first procedure", "1 2 0", step(first));
        NestPascal last = Check.before(text, 9);
        check.due("CAL 0 4, the last procedure", "4 2 0", step(last));
    }

    private void cellsMore() {
        NestPascal fewest = Check.before("begin end.", 1);
        check.due("the top before", -1, fewest.about(3));
        check.due("INT 0 3", "2 2 0", step(fewest));
        NestPascal more = Check.before("var v;begin end.", 1);
        check.due("INT 0 4", "2 3 0", step(more));
        NestPascal most = Check.before(Check.leavingFree(0, "begin end."), 1);
        check.due("INT 0 200", "2 199 0", step(most));
        NestPascal inside = Check.before("var v;proc f;var a array 2;begin end;begin f end.", 2);
        check.due("the top before", 3, inside.about(3));
        check.due("INT 0 5 in a procedure", "3 8 0", step(inside));
    }

    private void jmp() {
        NestPascal near = Check.started("begin end.");
        check.due("JMP 0 1, to what comes next", "1 -1 0", step(near));
        NestPascal far = Check.started("proc f;begin end;begin end.");
        check.due("JMP 0 4, over a procedure", "4 -1 0", step(far));
        NestPascal back = Check.before("begin while 1=1 do end.", 6);
        check.due("JMP 0 2, back", "2 2 0", step(back));
    }

    private void jpc() {
        // 2 LIT, 3 LIT, 4 OPR, 5 JPC 8, 6 LIT, 7 OPR 10, 8 LIT
        NestPascal zero = Check.before("begin if 1=2 then write 1;write 2 end.", 5);
        check.due("the uppermost before", "3 0", zero.about(3) + " " + zero.cell(3));
        check.due("JPC with 0", "8 2 0", step(zero));
        NestPascal one = Check.before("begin if 1=1 then write 1;write 2 end.", 5);
        check.due("the uppermost before", "3 1", one.about(3) + " " + one.cell(3));
        check.due("JPC with 1", "6 2 0", step(one));
    }

    private void endOfBlock() {
        check.made("proc e;begin end;proc f(x);begin end;proc g(x,y);begin end;proc h(x,y,z);begin end;begin end.",
                "JMP 0 13, JMP 0 2, INT 0 3, OPR 0 0, JMP 0 5, INT 0 3, OPR 1 0, JMP 0 8, INT 0 3, OPR 2 0, "
                + "JMP 0 11, INT 0 3, OPR 3 0, INT 0 3, OPR 0 0");
        String[] texts = {"proc f;begin end;begin f;write 9 end.", "proc f(x);begin end;begin f(1);write 9 end.",
            "proc f(x,y);begin end;begin f(1,2);write 9 end.", "proc f(x,y,z);begin end;begin f(1,2,3);write 9 end."};
        for (int count = 0; count <= 3; count++) {
            NestPascal x = Check.before(texts[count], 3);
            check.due("the top before the END", 2 + count + 3, x.about(3));
            check.due("END with parameters " + count, 6 + count + " 2 0", step(x));
        }
    }

    private void signTurned() {
        check.writes("begin write -0;write -1;write -(-1);write -9999;write -(0-9999) end.", "0 -1 1 -9999 9999");
        NestPascal x = Check.before("begin write -7 end.", 3);
        check.due("the uppermost before", "3 7", x.about(3) + " " + x.cell(3));
        check.due("OPR 0 1", "4 3 -7", step(x));
        check.writes("begin write -(" + MAX + ");write -(" + MIN + "+1) end.", "-2147483647 2147483647");
    }

    private void sums() {
        check.writes("begin write 7+2;write 7-2;write 2-7;write 7*2;write 7-7;write 7*0 end.", "9 5 -5 14 0 0");
        NestPascal x = Check.before("begin write 7-2 end.", 4);
        check.due("the two before", "4 7 2", x.about(3) + " " + Check.cells(x, 3, 4));
        check.due("OPR 0 3", "5 3 5", step(x));
        check.made("begin write 1+2-3*4 end.", "JMP 0 1, INT 0 3, LIT 0 1, LIT 0 2, OPR 0 2, LIT 0 3, LIT 0 4, "
                + "OPR 0 4, OPR 0 3, OPR 0 10, OPR 0 0");
    }

    private void quotients() {
        check.writes("begin write 5/2;write 6/2;write 1/2;write 0/2;write 2/2;write 7/1 end.", "2 3 0 0 1 7");
        check.writes("begin write (-5)/2;write 5/(-2);write (-5)/(-2);write (-1)/2;write 1/(-2);write (-6)/2 end.",
                "-2 -2 2 0 0 -3");
        check.writes("begin write 9999/(9999+1) end.", "0");
        check.made("begin write 5/2 end.", "JMP 0 1, INT 0 3, LIT 0 5, LIT 0 2, OPR 0 5, OPR 0 10, OPR 0 0");
    }

    private void relations() {
        String[] left = {"1", "2", "3", "-1", "0", MIN, MAX, MIN, MAX};
        String[] right = {"2", "2", "2", "0", "-1", MAX, MIN, MIN, MAX};
        int[] order = {-1, 0, 1, -1, 1, -1, 1, 0, 0};
        for (int i = 0; i < order.length; i++) {
            relation(left[i], '=', right[i], order[i] == 0);
            relation(left[i], '#', right[i], order[i] != 0);
            relation(left[i], '<', right[i], order[i] < 0);
            relation(left[i], '>', right[i], order[i] > 0);
        }
        check.made("begin if 1=1 then;if 1#1 then;if 1<1 then;if 1>1 then end.", "JMP 0 1, INT 0 3, "
                + "LIT 0 1, LIT 0 1, OPR 0 6, JPC 0 6, LIT 0 1, LIT 0 1, OPR 0 7, JPC 0 10, "
                + "LIT 0 1, LIT 0 1, OPR 0 8, JPC 0 14, LIT 0 1, LIT 0 1, OPR 0 9, JPC 0 18, OPR 0 0");
    }

    private void relation(String left, char sign, String right, boolean want) {
        String text = "begin if " + left + sign + right + " then end.";
        // In front of the last instruction stands the JPC.
        int jpc = Check.compiled(text).code(-1, 0) - 2;
        NestPascal x = Check.before(text, jpc);
        check.due("the top with " + text, 3, x.about(3));
        check.due("the uppermost with " + text, want ? 1 : 0, x.cell(3));
    }

    private void written() {
        NestPascal x = Check.before("begin write 7;write 0 end.", 3);
        check.due("about(5) before", 0, x.about(5));
        check.due("OPR 0 10", "4 2 0", step(x));
        check.due("written(0)", 7, x.written(0));
        check.due("about(5)", 1, x.about(5));
        x.run(2);
        check.due("written(0), which is 0", 0, x.written(0));
        check.due("written(1)", 7, x.written(1));
        check.due("about(5)", 2, x.about(5));
    }

    private void chk() {
        for (int size : new int[] {1, 2, 30}) {
            index(size, "0-1", -1, false);
            index(size, "0", 0, true);
            index(size, "" + (size - 1), size - 1, true);
            index(size, "" + size, size, false);
            index(size, MIN, Integer.MIN_VALUE, false);
            index(size, MAX, Integer.MAX_VALUE, false);
        }
    }

    /** An index, read and given a value; when it is right it stays the uppermost. */
    private void index(int size, String index, int value, boolean right) {
        String[] texts = {"var a array " + size + ";begin write a[" + index + "] end.",
            "var a array " + size + ";begin a[" + index + "]:=1 end."};
        for (String text : texts) {
            int place = 2;
            NestPascal code = Check.compiled(text);
            while (place < 100 && code.code(place, 0) != 11) {
                place++;
            }
            check.due("a of CHK in " + text, size, code.code(place, 2));
            NestPascal x = Check.before(text, place);
            check.due("the index in " + text, value, x.cell(size + 3));
            check.due("CHK in " + text, (right ? place + 1 : place) + " " + (size + 3) + " " + value, step(x));
            check.due("the state in " + text, right ? 1 : 4, x.about(0));
        }
    }

    private void notTold() {
        // On the fourth level, where a wrong l would show; l and a of all that have none are 0.
        check.made("proc a;proc b;proc c;proc d;var v;w array 2;begin if 1=2 then write -3 else w[0]:=v;"
                + "while 1<2 do end;begin end;begin end;begin end;begin end.",
                "JMP 0 30, JMP 0 28, JMP 0 26, JMP 0 24, JMP 0 5, INT 0 6, LIT 0 1, LIT 0 2, OPR 0 6, JPC 0 14, "
                + "LIT 0 3, OPR 0 1, OPR 0 10, JMP 0 18, LIT 0 0, CHK 0 2, LOD 0 3, STX 0 4, "
                + "LIT 0 1, LIT 0 2, OPR 0 8, JPC 0 23, JMP 0 18, "
                + "OPR 0 0, INT 0 3, OPR 0 0, INT 0 3, OPR 0 0, INT 0 3, OPR 0 0, INT 0 3, OPR 0 0");
    }

    private void blocks() {
        check.made("begin end.", "JMP 0 1, INT 0 3, OPR 0 0");
        check.made("var v;begin v:=1 end.", "JMP 0 1, INT 0 4, LIT 0 1, STO 0 3, OPR 0 0");
        check.made("proc f;begin end;begin end.", "JMP 0 4, JMP 0 2, INT 0 3, OPR 0 0, INT 0 3, OPR 0 0");
        check.made("var v;proc f;var a array 30;begin f end;proc g(x);begin v:=x end;begin f end.",
                "JMP 0 10, JMP 0 2, INT 0 33, CAL 1 1, OPR 0 0, JMP 0 6, INT 0 3, LOD 0 -1, STO 1 3, OPR 1 0, "
                + "INT 0 4, CAL 0 1, OPR 0 0");
        check.made("proc f;proc g;begin end;proc h;begin end;begin end;begin end.",
                "JMP 0 10, JMP 0 8, JMP 0 3, INT 0 3, OPR 0 0, JMP 0 6, INT 0 3, OPR 0 0, INT 0 3, OPR 0 0, "
                + "INT 0 3, OPR 0 0");
    }

    private void places() {
        check.made("proc f(x);begin x:=x end;begin end.",
                "JMP 0 6, JMP 0 2, INT 0 3, LOD 0 -1, STO 0 -1, OPR 1 0, INT 0 3, OPR 0 0");
        check.made("proc f(x,y);begin x:=y end;begin end.",
                "JMP 0 6, JMP 0 2, INT 0 3, LOD 0 -1, STO 0 -2, OPR 2 0, INT 0 3, OPR 0 0");
        check.made("proc f(x,y,z);begin x:=y;z:=x end;begin end.",
                "JMP 0 8, JMP 0 2, INT 0 3, LOD 0 -2, STO 0 -3, LOD 0 -3, STO 0 -1, OPR 3 0, INT 0 3, OPR 0 0");
        check.made("var u;a array 2;v;begin u:=v;a[0]:=1 end.",
                "JMP 0 1, INT 0 7, LOD 0 6, STO 0 3, LIT 0 0, CHK 0 2, LIT 0 1, STX 0 4, OPR 0 0");
        // A procedure's variables begin at 3, too, with parameters or without.
        check.made("var u;proc f(x,y,z);var v;w;begin v:=w end;begin end.",
                "JMP 0 6, JMP 0 2, INT 0 5, LOD 0 4, STO 0 3, OPR 3 0, INT 0 4, OPR 0 0");
        // The last of the places that a text can hold names for.
        check.made("var a array 30;b array 30;c array 30;d array 30;e array 30;f array 30;g array 30;v;begin v:=1 end.",
                "JMP 0 1, INT 0 214, LIT 0 1, STO 0 213, OPR 0 0");
    }

    private void elements() {
        check.made("var v;a array 1;b array 30;begin v:=a[0];b[v]:=2 end.",
                "JMP 0 1, INT 0 35, LIT 0 0, CHK 0 1, LDX 0 4, STO 0 3, "
                + "LOD 0 3, CHK 0 30, LIT 0 2, STX 0 5, OPR 0 0");
        check.made("var a array 2;b array 3;begin a[b[1]]:=b[a[0]] end.",
                "JMP 0 1, INT 0 8, LIT 0 1, CHK 0 3, LDX 0 5, CHK 0 2, LIT 0 0, CHK 0 2, LDX 0 3, CHK 0 3, LDX 0 5, "
                + "STX 0 3, OPR 0 0");
    }

    private void calls() {
        check.made("proc f;begin end;begin f end.",
                "JMP 0 4, JMP 0 2, INT 0 3, OPR 0 0, INT 0 3, CAL 0 1, OPR 0 0");
        check.made("proc f(x,y,z);begin end;proc g(x);begin end;begin g(1);f(2,3+4,-5) end.",
                "JMP 0 7, JMP 0 2, INT 0 3, OPR 3 0, JMP 0 5, INT 0 3, OPR 1 0, INT 0 3, LIT 0 1, CAL 0 4, "
                + "LIT 0 2, LIT 0 3, LIT 0 4, OPR 0 2, LIT 0 5, OPR 0 1, CAL 0 1, OPR 0 0");
        // To its JMP even where its own procedures come first, and from within.
        check.made("proc f;proc g;begin f;g end;begin g end;begin f end.",
                "JMP 0 10, JMP 0 7, JMP 0 3, INT 0 3, CAL 2 1, CAL 1 2, OPR 0 0, INT 0 3, CAL 0 2, OPR 0 0, "
                + "INT 0 3, CAL 0 1, OPR 0 0");
    }

    private void links() {
        String body = ";begin v:=v;a[0]:=a[1];f end;";
        String front = "var v;a array 2;proc f;";
        String[] heads = {front + "begin end;" + body.substring(1, body.length() - 1) + ".",
            front + body.substring(1) + "begin end.",
            front + "proc g" + body + "begin end;begin end.",
            front + "proc g;proc h" + body + "begin end;begin end;begin end.",
            front + "proc g;proc h;proc i" + body + "begin end;begin end;begin end;begin end."};
        int[] named = {1, 2, 3, 4, 5};
        for (int level = 0; level < heads.length; level++) {
            NestPascal x = Check.compiled(heads[level]);
            int[] seen = new int[6];
            for (int k = 0; k < x.code(-1, 0); k++) {
                if (x.code(k, 0) >= 1 && x.code(k, 0) <= 5) {
                    seen[x.code(k, 0)]++;
                    check.due("l of instruction " + k + " in " + heads[level], level, x.code(k, 1));
                }
            }
            for (int operation : named) {
                check.due("how many of operation " + operation + " in " + heads[level], 1, seen[operation]);
            }
        }
        // The block in which it was declared, not the outermost one.
        check.made("proc f;var v;proc g(x);begin v:=x end;begin g(v) end;begin end.",
                "JMP 0 11, JMP 0 7, JMP 0 3, INT 0 3, LOD 0 -1, STO 1 3, OPR 1 0, INT 0 4, LOD 0 3, CAL 0 2, OPR 0 0, "
                + "INT 0 3, OPR 0 0");
    }

    private void ifs() {
        String condition = "JMP 0 1, INT 0 3, LIT 0 1, LIT 0 2, OPR 0 6, ";
        check.made("begin if 1=2 then end.", condition + "JPC 0 6, OPR 0 0");
        check.made("begin if 1=2 then write 3 end.", condition + "JPC 0 8, LIT 0 3, OPR 0 10, OPR 0 0");
        check.made("begin if 1=2 then else end.", condition + "JPC 0 7, JMP 0 7, OPR 0 0");
        check.made("begin if 1=2 then write 3 else write 4 end.",
                condition + "JPC 0 9, LIT 0 3, OPR 0 10, JMP 0 11, LIT 0 4, OPR 0 10, OPR 0 0");
        check.made("begin if 1=2 then if 1=2 then else;write 3 end.",
                condition + "JPC 0 11, LIT 0 1, LIT 0 2, OPR 0 6, JPC 0 11, JMP 0 11, LIT 0 3, OPR 0 10, OPR 0 0");
        check.writes("begin if 1=1 then write 3 else write 4;if 1=2 then write 5 else write 6;if 1=2 then write 7 end.",
                "3 6");
    }

    private void whiles() {
        String condition = "LIT 0 1, LIT 0 2, OPR 0 6, ";
        check.made("begin while 1=2 do end.", "JMP 0 1, INT 0 3, " + condition + "JPC 0 7, JMP 0 2, OPR 0 0");
        check.made("begin write 9;while 1=2 do write 3;write 4 end.",
                "JMP 0 1, INT 0 3, LIT 0 9, OPR 0 10, " + condition
                + "JPC 0 11, LIT 0 3, OPR 0 10, JMP 0 4, LIT 0 4, OPR 0 10, OPR 0 0");
        check.made("begin while 1=2 do while 1=2 do end.", "JMP 0 1, INT 0 3, " + condition + "JPC 0 12, " + condition
                + "JPC 0 11, JMP 0 6, JMP 0 2, OPR 0 0");
    }

    private void signs() {
        check.made("begin write -1 end.", "JMP 0 1, INT 0 3, LIT 0 1, OPR 0 1, OPR 0 10, OPR 0 0");
        check.made("begin write 1 end.", "JMP 0 1, INT 0 3, LIT 0 1, OPR 0 10, OPR 0 0");
        // Behind the first term, all its factors with it, and before the second.
        check.made("begin write -1*2-3 end.",
                "JMP 0 1, INT 0 3, LIT 0 1, LIT 0 2, OPR 0 4, OPR 0 1, LIT 0 3, OPR 0 3, OPR 0 10, OPR 0 0");
        check.made("begin write -(-1) end.", "JMP 0 1, INT 0 3, LIT 0 1, OPR 0 1, OPR 0 1, OPR 0 10, OPR 0 0");
        check.writes("begin write -7/2;write -1+2;write -1-2;write -2*3 end.", "-3 1 -3 -6");
    }

    private void instructions() {
        // 4 CAL 1 1 is the one with three different numbers.
        NestPascal x = Check.compiled("proc f(a);begin f(a) end;begin end.");
        check.due("code(0, 0), the first", 7, x.code(0, 0));
        check.due("code(0, 1)", 0, x.code(0, 1));
        check.due("code(0, 2)", 6, x.code(0, 2));
        check.due("code(3, 0)", 1, x.code(3, 0));
        check.due("code(3, 1)", 0, x.code(3, 1));
        check.due("code(3, 2)", -1, x.code(3, 2));
        check.due("code(4, 0)", 5, x.code(4, 0));
        check.due("code(4, 1)", 1, x.code(4, 1));
        check.due("code(4, 2)", 1, x.code(4, 2));
        check.due("code(6, 0)", 6, x.code(6, 0));
        check.due("code(6, 2)", 3, x.code(6, 2));
        check.due("code(7, 0), the last", 9, x.code(7, 0));
        check.due("code(8, 0), behind the last", 0, x.code(8, 0));
    }

    private void noInstruction() {
        NestPascal x = Check.compiled("proc f(a);begin f(a) end;begin end.");
        int[] none = {-2, 8, 9, 179, 180, 181, Integer.MIN_VALUE, Integer.MAX_VALUE};
        for (int k : none) {
            for (int what = -1; what <= 3; what++) {
                check.due("code(" + k + ", " + what + ")", 0, x.code(k, what));
            }
        }
        int[] noSuch = {-1, 3, 4, Integer.MIN_VALUE, Integer.MAX_VALUE};
        for (int what : noSuch) {
            for (int k = 0; k < 8; k++) {
                check.due("code(" + k + ", " + what + ")", 0, x.code(k, what));
            }
        }
        check.due("code(7, 0), the last there is", 9, x.code(7, 0));
        check.due("code(4, 2), the last what there is", 1, x.code(4, 2));
        // Of a longer program before nothing is left.
        Check.put(x, "begin end.");
        x.compile();
        check.due("code(2, 0), the last of the shorter", 9, x.code(2, 0));
        for (int k = 3; k < 8; k++) {
            check.due("operation " + k + " of the shorter", 0, x.code(k, 0));
            check.due("a of " + k + " of the shorter", 0, x.code(k, 2));
        }
    }

    private void countOfInstructions() {
        NestPascal x = new NestPascal();
        check.due("code(-1, 0) without a program", 0, x.code(-1, 0));
        Check.put(x, "begin end.");
        check.due("code(-1, 0) of a text that is not compiled", 0, x.code(-1, 0));
        x.compile();
        check.due("code(-1, 0)", 3, x.code(-1, 0));
        // Whatever what is: the sentence names k alone.
        for (int what : new int[] {-1, 1, 2, 3, Integer.MIN_VALUE, Integer.MAX_VALUE}) {
            check.due("code(-1, " + what + ")", 3, x.code(-1, what));
        }
        check.due("code(-2, 0)", 0, x.code(-2, 0));
        check.due("code(0, 0)", 7, x.code(0, 0));
        Check.put(x, "begin write1" + "+1".repeat(82) + "end.");
        x.compile();
        check.due("code(-1, 0) of a long one", 169, x.code(-1, 0));
    }
}
