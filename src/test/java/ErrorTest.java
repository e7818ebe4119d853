/** Promise 4, and of promise 3 what an error does: each error, where it is told, which one counts. */
public final class ErrorTest {
    private static final Check CHECK = new Check();
    private static final String FOUR_LEVELS = "proc a;proc b;proc c;proc d;";
    private static final String DECLARED =
            "var v;a array 9;proc f;begin end;proc g(x);begin end;proc h(x,y);begin end;begin ";

    public static void main(String[] args) {
        noTokens();
        programAndBlock();
        declarations();
        statements();
        expressions();
        tooDeep();
        unknownNames();
        namesDeclaredAgain();
        wrongKinds();
        wrongCalls();
        beyondLimits();
        answersOfError();
        CHECK.finish();
    }

    private static void noTokens() {
        CHECK.error(1, "|");
        CHECK.error(1, "    |");
        CHECK.error(1, "var |abcdefg;begin end.");
        CHECK.error(1, "var |arrayab;begin end.");
        CHECK.fine("var abcdef;begin end.");
        CHECK.error(1, "begin write |12345 end.");
        CHECK.error(1, "begin write |00001 end.");
        CHECK.fine("begin write 9999 end.");
        CHECK.error(1, "var |X;begin end.");
        CHECK.error(1, "begin |~ end.");
        CHECK.error(1, "var v|X;begin end.");
        CHECK.error(4, "var v;begin |v: =1 end.");
        CHECK.error(1, "var a array 2;begin a[1]|: =1 end.");
        CHECK.error(1, "var a array 2;begin a[1]|:");
        CHECK.error(1, "var a array 2;begin a[1]|=1 end.");
        CHECK.fine("  var a array2;begin a[1]  :=1end  .  ");
        CHECK.fine("begin if1=1then write2else write3end.");
        CHECK.error(2, "begin |ifx=1 end.");
    }

    private static void programAndBlock() {
        CHECK.error(1, "begin end|");
        CHECK.error(1, "begin end  |");
        CHECK.error(1, "begin end|;");
        CHECK.error(1, "begin end.|.");
        CHECK.error(1, "begin end. |x");
        CHECK.error(1, "begin end.  |?");
        CHECK.fine("begin end.   ");
        CHECK.error(1, "|end.");
        CHECK.error(1, "|x;begin end.");
        CHECK.error(1, "begin |. ");
        CHECK.error(1, "begin |var x;begin end end.");
        CHECK.error(1, "begin |proc end.");
        CHECK.error(1, "proc f;begin end;|var x;begin end.");
        CHECK.error(1, "proc f;begin end|.begin end.");
        CHECK.error(1, "proc f;begin end |begin end.");
        CHECK.error(1, "var x;|var y;begin end.");
    }

    private static void declarations() {
        CHECK.error(1, "var |begin end.");
        CHECK.error(1, "var |;begin end.");
        CHECK.error(1, "var |1;begin end.");
        CHECK.error(1, "var x|,y;begin end.");
        CHECK.error(1, "var x |begin end.");
        CHECK.error(1, "var x array|;begin end.");
        CHECK.error(1, "var y;x array |y;begin end.");
        CHECK.error(1, "var x array |-1;begin end.");
        CHECK.error(1, "var x array 3|,begin end.");
        CHECK.error(1, "var |write;begin end.");
        CHECK.error(1, "proc |;begin end;begin end.");
        CHECK.error(1, "proc |if;begin end;begin end.");
        CHECK.error(1, "proc f |begin end;begin end.");
        CHECK.error(1, "proc f(|);begin end;begin end.");
        CHECK.error(1, "proc f(a|;begin end;begin end.");
        CHECK.error(1, "proc f(a,|);begin end;begin end.");
        CHECK.error(1, "proc f(a |b);begin end;begin end.");
        CHECK.error(1, "proc f(a,b,c|,d);begin end;begin end.");
        CHECK.error(1, "proc f(|1);begin end;begin end.");
        CHECK.error(1, "proc f(a |array 3);begin end;begin end.");
        CHECK.fine("proc f(a,b,c);begin end;begin end.");
    }

    private static void statements() {
        CHECK.fine("begin ;; ; end.");
        CHECK.fine("begin if 1=1 then else;while 1>2 do end.");
        CHECK.error(1, "begin |1 end.");
        CHECK.error(1, "begin |else end.");
        CHECK.error(1, "begin if 1=1 then;|else end.");
        CHECK.error(1, "begin if 1=1 then else |else end.");
        CHECK.fine("begin if 1=1 then if 1=1 then else else end.");
        CHECK.fine("begin if 1=1 then while 1=2 do else end.");
        CHECK.error(1, "begin if 1=1 then begin |else end end.");
        CHECK.error(1, "begin while 1=2 do |else end.");
        CHECK.error(1, "begin if 1<2 |write 3 end.");
        CHECK.error(1, "begin if 1 |then end.");
        CHECK.error(1, "begin if 1<2|<3 then end.");
        CHECK.error(1, "begin if |then end.");
        CHECK.error(1, "begin while 1<2 |then end.");
        CHECK.error(1, "begin while (1|<2) do end.");
        CHECK.error(1, "begin begin end |begin end end.");
        CHECK.error(1, "begin write |;end.");
        CHECK.error(1, "begin write 1 |2 end.");
        CHECK.error(1, "begin write 1|,2 end.");
        CHECK.error(1, DECLARED + "a[1|:=2 end.");
        CHECK.error(1, DECLARED + "a[1] |end.");
        CHECK.error(1, DECLARED + "a[|]:=1 end.");
        CHECK.error(1, DECLARED + "v:=|end.");
        CHECK.error(1, DECLARED + "v:=v|:=1 end.");
        CHECK.error(1, DECLARED + "f |f end.");
        CHECK.error(1, DECLARED + "f|=1 end.");
        CHECK.error(1, DECLARED + "f |");
    }

    private static void expressions() {
        CHECK.fine("begin write -1-1*1/1+(-1) end.");
        CHECK.error(1, "begin write |+1 end.");
        CHECK.error(1, "begin write -|-1 end.");
        CHECK.error(1, "begin write 1+|-1 end.");
        CHECK.error(1, "begin write 1*|-1 end.");
        CHECK.error(1, "begin write 1*|*1 end.");
        CHECK.error(1, "begin write (1|;");
        CHECK.error(1, "begin write (1|]");
        CHECK.error(1, "begin write (|)end.");
        CHECK.error(1, "begin write 1|)end.");
        CHECK.error(1, "begin write |if end.");
        CHECK.error(1, DECLARED + "write v|(1) end.");
        CHECK.error(1, DECLARED + "write a[1|) end.");
        CHECK.error(1, DECLARED + "write v |v end.");
        CHECK.error(1, DECLARED + "write 1|[1] end.");
    }

    private static void tooDeep() {
        CHECK.fine("begin write ((((((1)))))) end.");
        CHECK.error(1, "begin write ((((((|(1))))))) end.");
        CHECK.fine(DECLARED + "write a[a[a[a[a[a[1]]]]]] end.");
        CHECK.error(1, DECLARED + "write a[a[a[a[a[a[a|[1]]]]]]] end.");
        CHECK.error(4, DECLARED + "write a[a[a[a[a[a[|v[1]]]]]]] end.");
        CHECK.fine("begin begin begin begin begin begin begin end end end end end end end.");
        CHECK.error(1, "begin begin begin begin begin begin begin |begin end end end end end end.");
        CHECK.fine("begin if 1=1 then if 1=1 then if 1=1 then while 1=1 do while 1=1 do while 1=1 do end.");
        CHECK.error(1, "begin if 1=1 then if 1=1 then if 1=1 then "
                + "while 1=1 do while 1=1 do while 1=1 do |if 1=1 then end.");
        CHECK.error(1, "begin if 1=1 then if 1=1 then if 1=1 then "
                + "while 1=1 do while 1=1 do while 1=1 do |while 1=1 do end.");
        CHECK.error(1, "begin if 1=1 then if 1=1 then if 1=1 then "
                + "while 1=1 do while 1=1 do while 1=1 do write |(1) end.");
        // An if is open in its condition and in its other statement, too.
        CHECK.fine("begin if (((((1)))))=1 then end.");
        CHECK.error(1, "begin if (((((|(1))))))=1 then end.");
        CHECK.error(1, "begin while 1=(((((|(1)))))) do end.");
        CHECK.fine("begin if 1=1 then else write (((((1))))) end.");
        CHECK.error(1, "begin if 1=1 then else write (((((|(1)))))) end.");
        // What is closed counts no more.
        CHECK.fine("begin if 1=1 then begin end;begin while 1=2 do end;write ((((((1)))))) end.");
        CHECK.fine(DECLARED + "a[a[1]]:=((((((1))))));h((1),(2));write ((((((1)))))) end.");
        CHECK.fine(DECLARED + "g(((((1))))) end.");
        CHECK.fine(DECLARED + "g((((((1)))))) end.");
        CHECK.error(1, DECLARED + "g((((((|(1))))))) end.");
        CHECK.fine(DECLARED + "a[((((((1))))))]:=1 end.");
        CHECK.error(1, DECLARED + "a[((((((|(1)))))))]:=1 end.");
        // Too deep and wrong of a call: the lower number.
        String six = "begin begin begin begin begin begin ";
        CHECK.error(1, "proc f;begin end;begin " + six + "f|(1) end.");
        CHECK.error(1, "proc f(x);begin end;begin " + six + "f|(1) end.");
        CHECK.fine("var a array 2;begin " + six + "a[1]:=1 end end end end end end end.");
        CHECK.error(1, "var a array 2;begin " + six + "a[a|[1]]:=1 end.");
        // The parameters' and the blocks' own do not count.
        CHECK.fine("proc a(x);proc b;proc c;begin write ((((((1)))))) end;begin end;begin end;begin end.");
    }

    private static void unknownNames() {
        CHECK.error(2, "begin |y:=1 end.");
        CHECK.error(2, "begin |y end.");
        CHECK.error(2, "begin |y ? end.");
        CHECK.error(2, "begin |y[1]:=1 end.");
        CHECK.error(2, "begin write |y end.");
        CHECK.error(2, "begin write |y[1] end.");
        CHECK.error(2, "var x;begin x:=|y end.");
        CHECK.error(2, "var x;begin |xx:=1 end.");
        CHECK.error(2, "proc f;begin |g end;proc g;begin end;begin end.");
        CHECK.error(2, "proc f(p);var q;begin end;begin |p:=1 end.");
        CHECK.error(2, "proc f;var q;begin end;begin write |q end.");
        CHECK.error(2, "proc f;proc g;begin end;begin end;begin |g end.");
        CHECK.error(2, "proc f;begin |x:=1 end;begin end.");
        CHECK.fine("var x;proc f;begin x:=1;f end;begin f end.");
    }

    private static void namesDeclaredAgain() {
        CHECK.error(3, "var x;|x;begin end.");
        CHECK.error(3, "var x;|x array 31;begin end.");
        CHECK.error(3, "var x array 2;|x?");
        CHECK.error(3, "var x;proc |x;begin end;begin end.");
        CHECK.error(3, "proc f;begin end;proc |f;begin end;begin end.");
        CHECK.error(3, "proc f(a,|a);begin end;begin end.");
        CHECK.error(3, "proc f(a,b,|a);begin end;begin end.");
        CHECK.error(3, "proc f(a);var |a;begin end;begin end.");
        CHECK.error(3, "proc f(a);proc |a;begin end;begin end;begin end.");
        CHECK.error(3, "proc f;var g;proc |g;begin end;begin end;begin end.");
        CHECK.fine("proc f(f);begin f:=1 end;begin f(1) end.");
        CHECK.fine("var x;proc f(x);begin end;proc g;var x;f;begin end;begin end.");
        CHECK.fine("proc f(x);begin end;proc g(x);begin end;begin end.");
        CHECK.fine("proc f;proc f;begin end;begin end;begin end.");
    }

    private static void wrongKinds() {
        CHECK.error(4, DECLARED + "|f:=1 end.");
        CHECK.error(4, DECLARED + "|g:=1 end.");
        CHECK.error(4, DECLARED + "|f[1]:=1 end.");
        CHECK.error(4, DECLARED + "|g[1]:=1 end.");
        CHECK.error(4, DECLARED + "write |f end.");
        CHECK.error(4, DECLARED + "write |g(1) end.");
        CHECK.error(4, DECLARED + "write |f[1] end.");
        CHECK.error(4, DECLARED + "write 1+|f? end.");
        CHECK.error(4, DECLARED + "|a:=1 end.");
        CHECK.error(4, DECLARED + "|a end.");
        CHECK.error(4, DECLARED + "|a(1) end.");
        CHECK.error(4, DECLARED + "|a");
        CHECK.error(4, DECLARED + "|a? end.");
        CHECK.error(4, DECLARED + "write |a end.");
        CHECK.error(4, DECLARED + "write |a(1) end.");
        CHECK.error(4, DECLARED + "write |a");
        CHECK.error(4, DECLARED + "|v[1]:=1 end.");
        CHECK.error(4, DECLARED + "write |v[1] end.");
        CHECK.error(4, DECLARED + "|v end.");
        CHECK.error(4, DECLARED + "|v(1) end.");
        CHECK.error(4, DECLARED + "|v=1 end.");
        CHECK.error(4, DECLARED + "|v");
        CHECK.error(4, DECLARED + "g(|g) end.");
        CHECK.error(4, DECLARED + "if |a=1 then end.");
        CHECK.error(4, "proc f(x);begin |x end;begin end.");
        CHECK.error(4, "proc f(x);begin write |x[0] end;begin end.");
        // The innermost declaration counts.
        CHECK.error(4, "var x array 2;proc f(x);begin |x[1]:=1 end;begin end.");
        CHECK.error(4, "proc f(f);begin |f(1) end;begin end.");
        CHECK.error(4, "var x;proc f;proc x;begin end;begin |x:=1 end;begin end.");
    }

    private static void wrongCalls() {
        CHECK.error(5, DECLARED + "f|(1) end.");
        CHECK.error(5, DECLARED + "f|(end.");
        CHECK.error(5, DECLARED + "g |end.");
        CHECK.error(5, DECLARED + "g|; end.");
        CHECK.error(5, DECLARED + "if 1=1 then g |else end.");
        CHECK.error(5, DECLARED + "if 1=1 then while 1=2 do g |else end.");
        CHECK.error(5, DECLARED + "if 1=1 then if 2=2 then else g |else end.");
        CHECK.error(5, DECLARED + "g(1,2|) end.");
        CHECK.error(5, DECLARED + "g(1,2,3,4,5|) end.");
        CHECK.error(5, DECLARED + "h(1|) end.");
        CHECK.error(5, DECLARED + "h(1,2,3|) end.");
        CHECK.error(5, DECLARED + "h((1)|) end.");
        CHECK.fine(DECLARED + "f;g(1);h(1,2);if 1=1 then f else g(-1) end.");
        // What may not stand there at all is error 1, an error further left counts before.
        CHECK.error(1, DECLARED + "g |else end.");
        CHECK.error(1, DECLARED + "if 1=1 then else g |else end.");
        CHECK.error(1, DECLARED + "if 1=1 then begin g |else end end.");
        CHECK.error(1, DECLARED + "while 1=1 do g |else end.");
        CHECK.error(1, DECLARED + "g|. end.");
        CHECK.error(1, DECLARED + "g |v end.");
        CHECK.error(1, DECLARED + "g|] end.");
        CHECK.error(1, DECLARED + "g|");
        CHECK.error(1, DECLARED + "g|? end.");
        CHECK.error(1, DECLARED + "g |begin end.");
        CHECK.error(1, DECLARED + "g(|) end.");
        CHECK.error(1, DECLARED + "h(1,|) end.");
        CHECK.error(1, DECLARED + "h(1|; end.");
        CHECK.error(2, DECLARED + "g(1,2,|y) end.");
        CHECK.error(5, "proc f(x);begin f |end;begin end.");
        CHECK.error(5, "proc f(x);begin f(1,2|) end;begin end.");
    }

    private static void beyondLimits() {
        CHECK.error(6, "var x array |0;begin end.");
        CHECK.error(6, "var x array |31;begin end.");
        CHECK.error(6, "var x array |9999;begin end.");
        CHECK.error(6, "var x array |31 begin end.");
        CHECK.error(1, "var x array |99999;begin end.");
        CHECK.fine("var x array 1;y array 30;z array 0030;begin end.");
        CHECK.fine(FOUR_LEVELS + "begin end;begin end;begin end;begin end;begin end.");
        CHECK.error(6, FOUR_LEVELS + "|proc e;begin end;begin end.");
        CHECK.error(6, FOUR_LEVELS + "var x;|proc");
        CHECK.error(1, FOUR_LEVELS + "var |proc");
        CHECK.fine(FOUR_LEVELS + "begin end;proc e;begin end;begin end;begin end;begin end;begin end.");
    }

    private static void answersOfError() {
        NestPascal x = new NestPascal();
        Check.put(x, "begin y end.");
        CHECK.due("error before compile", NestPascal.NONE, x.error(0));
        CHECK.due("whether compile throws", true, Check.compileThrows(x));
        CHECK.due("error(0)", 2, x.error(0));
        CHECK.due("error(1)", 6, x.error(1));
        int[] others = {-1, 2, 3, Integer.MIN_VALUE, Integer.MAX_VALUE};
        for (int what : others) {
            CHECK.due("error(" + what + ")", NestPascal.NONE, x.error(what));
        }
        x.write(0);
        x.start();
        CHECK.due("error(0) later", 2, x.error(0));
        Check.put(x, "begin end.");
        CHECK.due("compile()", 3, x.compile());
        CHECK.due("error(0) behind a compile without one", NestPascal.NONE, x.error(0));
        CHECK.due("error(1) behind a compile without one", NestPascal.NONE, x.error(1));
    }
}
