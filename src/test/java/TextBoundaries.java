/** The sentences on the text, its tokens, a new object and write. */
final class TextBoundaries {
    private static final String[] WORDS = {
        "var", "proc", "array", "begin", "end", "if", "then", "else", "while", "do", "write"};
    private static final String SYMBOLS = "+-*/=#<>()[],;.";

    private final Check check;

    TextBoundaries(Check check) {
        this.check = check;
    }

    void all() {
        check.sentence("An object is used for at most 512 calls after it has been made;"
                + " what later calls answer is free.", this::calls);
        check.sentence("THE TEXT has at most 180 characters", this::roomOfText);
        check.sentence("with codes 32 .. 126,", this::codes);
        check.sentence("at first none.", this::noTextAtFirst);
        check.sentence("TOKENS, with blanks between them as one likes:", this::blanks);
        check.sentence("NAMES (rows of 1 to 6 letters", this::lengthOfNames);
        check.sentence("a .. z", this::letters);
        check.sentence("that are no WORD),", this::namesThatAreWords);
        check.sentence("NUMBERS (rows of 1 to 4 digits),", this::numbers);
        check.sentence("the WORDS var proc array begin end if then else while do write,", this::words);
        check.sentence("and + - * / = # < > ( ) [ ] , ; . :=", this::symbols);
        check.sentence("(a row of letters, or of digits, is as long as it can be).", this::rows);
        check.sentence("The constants: `NONE = -1`: Nothing there.", this::none);
        check.sentence("No text, no program; idle.", this::newObject);
        check.sentence("Appends up to eight characters to the text,", this::eightCharacters);
        check.sentence("the codes of which are the eight bytes of w from the highest on,", this::highestByteFirst);
        check.sentence("but for those that are 0: true.", this::zeroBytes);
        check.sentence("False, changing nothing, if one of the others is not 32 .. 126,", this::wrongBytes);
        check.sentence("or they are more than there is room for.", this::moreThanRoom);
    }

    private void calls() {
        NestPascal x = new NestPascal();
        for (int call = 1; call <= 512; call++) {
            check.due("whether compile() throws as call " + call, true, Check.compileThrows(x));
        }
        NestPascal y = new NestPascal();
        for (int call = 1; call <= 512; call++) {
            check.due("write as call " + call, call <= 180, y.write(' '));
        }
        oneMethodUpToCall512();
        manySteps();
        manyTexts();
    }

    private void oneMethodUpToCall512() {
        String text = "var v;begin v:=7;write 8;while 1=1 do end.";
        for (int method = 0; method < 8; method++) {
            NestPascal x = Check.started(text);
            x.run(20);
            for (int call = (text.length() + 7) / 8 + 4; call <= 512; call++) {
                String what = " of method " + method + " as call " + call;
                switch (method) {
                    case 0 -> check.due("about(5)" + what, 1, x.about(5));
                    case 1 -> check.due("cell(3)" + what, 7, x.cell(3));
                    case 2 -> check.due("written(0)" + what, 8, x.written(0));
                    case 3 -> check.due("variable(0, 3)" + what, 7, x.variable(0, 3));
                    case 4 -> check.due("code(1, 2)" + what, 4, x.code(1, 2));
                    case 5 -> check.due("error(0)" + what, NestPascal.NONE, x.error(0));
                    case 6 -> check.due("start()" + what, true, x.start());
                    default -> check.due("run(3)" + what, 3, x.run(3));
                }
            }
        }
    }

    private void manySteps() {
        NestPascal y = new NestPascal();
        String text = "var v;begin while 1=1 do v:=v+1 end.";
        Check.put(y, text);
        y.compile();
        y.start();
        int calls = (text.length() + 7) / 8 + 2;
        int steps = 0;
        for (; calls < 511; calls++) {
            check.due("run(200) as call " + (calls + 1), 200, y.run(200));
            steps += 200;
        }
        // JMP and INT come first; of the nine steps of a round the eighth stores.
        check.due("variable(0, 3) as call 512", (steps - 2 + 1) / 9, y.variable(0, 3));
    }

    private void manyTexts() {
        NestPascal z = new NestPascal();
        for (int call = 1; call <= 506; call += 23) {
            for (int part = 0; part < 22; part++) {
                check.due("write as call " + (call + part), true, z.write(0x2020202020202020L));
            }
            check.due("whether compile() throws as call " + (call + 22), true, Check.compileThrows(z));
        }
        check.due("error(1) as call 507", 176, z.error(1));
        check.due("write as call 508", true, z.write(Check.packed("begin en")));
        check.due("write as call 509", true, z.write(Check.packed("d.")));
        check.due("compile() as call 510", 3, z.compile());
        check.due("start() as call 511", true, z.start());
        check.due("run(200) as call 512", 3, z.run(200));
    }

    private void roomOfText() {
        NestPascal x = new NestPascal();
        for (int i = 1; i <= 180; i++) {
            check.due("write of character " + i, true, x.write(' '));
        }
        check.due("write of character 181", false, x.write(' '));
        check.due("the length", 180, lengthOf(x));
        String longest = "begin write1" + "+1".repeat(82) + "end.";
        check.due("the length of a program", 180, longest.length());
        NestPascal y = new NestPascal();
        Check.put(y, longest);
        check.due("write behind 180 characters", false, y.write('.'));
        check.due("compile() of 180 characters", 169, y.compile());
        // Without its last character it is wrong: all 180 counted.
        check.errorAt(1, 179, longest.substring(0, 179));
    }

    private void codes() {
        for (int shift = 0; shift < 64; shift += 8) {
            check.due("write of code 31, shift " + shift, false, new NestPascal().write(31L << shift));
            check.due("write of code 32, shift " + shift, true, new NestPascal().write(32L << shift));
            check.due("write of code 126, shift " + shift, true, new NestPascal().write(126L << shift));
            check.due("write of code 127, shift " + shift, false, new NestPascal().write(127L << shift));
        }
        for (int code = 1; code < 256; code++) {
            check.due("write of code " + code, code >= 32 && code <= 126, new NestPascal().write(code));
        }
    }

    private void noTextAtFirst() {
        NestPascal none = new NestPascal();
        check.due("the length at first", 0, lengthOf(none));
        NestPascal one = new NestPascal();
        one.write(' ');
        check.due("the length behind one character", 1, lengthOf(one));
    }

    private void blanks() {
        String tight = "var v;a array 3;proc f(x,y);begin end;begin f(1,2);a[v]:=-1;if v=1then v:=2*3/4-5 end.";
        String wide = tight.replaceAll("([^a-z0-9 :])", " $1 ").replace(":", "  :").replace("= ", "=  ");
        check.due("whether blanks were put in", true, wide.length() > tight.length() + 40);
        String want = Check.listing(Check.compiled(tight));
        check.due("the code with blanks between", want, Check.listing(Check.compiled("   " + joined(wide) + "   ")));
        check.fine("begin write1end.");
        check.fine("begin write 1 end .");
        // Between tokens, not within them.
        check.error(1, "|be gin end.");
        check.error(1, "begin write 1 |2 end.");
        check.error(1, "var a array 2;begin a[1]|: =1 end.");
    }

    /** The sign that consists of two characters must stay together. */
    private static String joined(String text) {
        return text.replaceAll(": *=", ":=");
    }

    private void lengthOfNames() {
        String letters = "abcdefghi";
        for (int length = 1; length <= 6; length++) {
            String name = letters.substring(0, length);
            check.fine("var " + name + ";begin " + name + ":=1 end.");
        }
        for (int length = 7; length <= 9; length++) {
            check.error(1, "var |" + letters.substring(0, length) + ";begin end.");
        }
        check.error(1, "begin |abcdefg:=1 end.");
        check.error(2, "begin |abcdef:=1 end.");
        // All six letters count, and how many they are.
        check.fine("var a;aa;aaa;aaaa;aaaaa;aaaaaa;begin end.");
        check.error(3, "var abcdef;abcdeg;|abcdef;begin end.");
        for (int place = 0; place < 6; place++) {
            for (char c = 'b'; c <= 'z'; c++) {
                check.fine("var " + with(c, place) + ";" + with((char) (c - 1), place) + ";"
                        + (c == 'z' ? "" : with('z', place) + ";") + "begin end.");
            }
        }
        check.fine("var abcdef;cbcdef;ebcdef;ibcdef;qbcdef;ubcdef;ybcdef;begin end.");
    }

    /** A name of six letters with another one at a place. */
    private static String with(char letter, int place) {
        StringBuilder name = new StringBuilder("kkkkkk");
        name.setCharAt(place, letter);
        return name.toString();
    }

    private void letters() {
        for (char c = 'a'; c <= 'z'; c++) {
            check.fine("var " + c + ";" + ("" + c).repeat(6) + ";begin " + c + ":=" + ("" + c).repeat(6) + " end.");
        }
        for (char c : new char[] {'a' - 1, 'z' + 1, 'A', 'Z', 'A' - 1, 'Z' + 1, '_'}) {
            check.errorAt(1, 4, "var " + c + ";begin end.");
            check.errorAt(1, 5, "var x" + c + ";begin end.");
        }
    }

    private void namesThatAreWords() {
        for (String word : WORDS) {
            check.error(1, "var |" + word + ";begin end.");
            check.error(1, "proc |" + word + ";begin end;begin end.");
            check.error(1, "begin write |" + word + " end.");
            String longer = word + "s";
            String shorter = word.substring(0, word.length() - 1);
            check.fine("var " + longer + ";begin " + longer + ":=" + longer + " end.");
            check.fine("var " + shorter + ";begin " + shorter + ":=" + shorter + " end.");
        }
    }

    private void numbers() {
        String front = "JMP 0 1, INT 0 3, LIT 0 ";
        String back = ", OPR 0 10, OPR 0 0";
        for (String number : new String[] {"0", "9", "10", "99", "100", "999", "1000", "9999"}) {
            check.made("begin write " + number + " end.", front + number + back);
        }
        check.made("begin write 0000 end.", front + "0" + back);
        check.made("begin write 0012 end.", front + "12" + back);
        for (char c = '0'; c <= '9'; c++) {
            check.made("begin write " + c + " end.", front + c + back);
        }
        check.error(1, "begin write |10000 end.");
        check.error(1, "begin write |00000 end.");
        check.error(1, "begin write |99999 end.");
        check.error(1, "begin write |" + ((char) ('9' + 1)) + " end.");
        check.error(1, "begin write |" + ((char) ('0' - 1)) + " end.");
    }

    private void words() {
        String text = "var a array 2;proc f;begin end;begin if 1=1 then f else write 1;while 1=2 do f end.";
        check.fine(text);
        for (String word : WORDS) {
            int place = text.indexOf(word);
            String capital = word.substring(0, 1).toUpperCase();
            check.errorAt(1, place, text.substring(0, place) + capital + text.substring(place + 1));
        }
    }

    private void symbols() {
        check.fine("var a array 2;v;proc f(x,y);begin end;"
                + "begin f(1+2-3,4*5/6);if 1=2 then;if 1#2 then;if 1<2 then;if 1>2 then;a[v]:=0 end.");
        for (char c = 33; c <= 126; c++) {
            boolean known = SYMBOLS.indexOf(c) >= 0 || c >= '0' && c <= '9' || c >= 'a' && c <= 'z';
            if (!known) {
                check.errorAt(1, 0, c + "begin end.");
                check.errorAt(1, 14, "begin write 1 " + c + " 1 end.");
                check.errorAt(1, 10, "begin end." + c);
            }
        }
        check.error(1, "var a array 2;begin a[1]|:1 end.");
        check.error(1, "var a array 2;begin a[1]|=1 end.");
        check.error(1, "var a array 2;begin a[1]|:");
        check.error(1, "var a array 2;begin a[1]:=|=1 end.");
    }

    private void rows() {
        check.error(1, "|beginend.");
        check.error(1, "|varx;begin end.");
        check.error(2, "begin |endx.");
        check.error(2, "begin |ifx=1then end.");
        // Not six letters and one more, not four digits and one more.
        check.error(1, "var |abcdefg;begin end.");
        check.error(1, "begin write |12345 end.");
        check.fine("var abcdef;g;begin end.");
        check.error(1, "begin write 1234 |5 end.");
        // Letters and digits are rows of their own.
        check.error(1, "var x|1;begin end.");
        check.fine("var x array2;begin write1end.");
        check.error(1, "begin write 1|x end.");
    }

    private void none() {
        check.due("NONE", -1, NestPascal.NONE);
        NestPascal x = new NestPascal();
        check.due("error(0), where there is none", NestPascal.NONE, x.error(0));
        check.due("about(6), where there is none", NestPascal.NONE, x.about(6));
    }

    private void newObject() {
        NestPascal x = new NestPascal();
        check.due("about", "0 0 0 -1 0 0", Check.facts(x));
        check.due("code(-1, 0)", 0, x.code(-1, 0));
        check.due("code(0, 0)", 0, x.code(0, 0));
        check.due("start()", false, x.start());
        check.due("run(200)", 0, x.run(200));
        check.due("error(0)", NestPascal.NONE, x.error(0));
        check.due("error(1)", NestPascal.NONE, x.error(1));
        check.due("cells", "0 0 0 0", Check.cells(x, -1, 2));
        check.due("written(0)", 0, x.written(0));
        check.due("variable(0, 0)", 0, x.variable(0, 0));
        check.due("about behind all that", "0 0 0 -1 0 0", Check.facts(x));
        check.due("the length", 0, lengthOf(x));
        // An object is not new any more with a text and a program.
        Check.put(x, "begin end.");
        check.due("compile()", 3, x.compile());
        check.due("start() with a program", true, x.start());
        check.due("about(0)", 1, x.about(0));
        check.due("code(-1, 0) of another object", 0, new NestPascal().code(-1, 0));
    }

    private void eightCharacters() {
        String text = "begin end.";
        for (int length = 0; length <= 8; length++) {
            NestPascal x = new NestPascal();
            check.due("write of " + length, true, x.write(Check.packed(" ".repeat(length))));
            check.due("write of two more", true, x.write(Check.packed("~~")));
            Check.compileThrows(x);
            check.due("place behind " + length, length, x.error(1));
        }
        for (int size = 1; size <= 8; size++) {
            NestPascal x = new NestPascal();
            for (int i = 0; i < text.length(); i += size) {
                x.write(Check.packed(text.substring(i, Math.min(i + size, text.length()))));
            }
            check.due("compile() of a text in parts of " + size, 3, x.compile());
        }
    }

    private void highestByteFirst() {
        for (int byteOfW = 0; byteOfW < 8; byteOfW++) {
            NestPascal x = new NestPascal();
            long blanks = 0x2020202020202020L;
            check.due("write", true, x.write(blanks ^ (long) (' ' ^ '~') << 56 - 8 * byteOfW));
            Check.compileThrows(x);
            check.due("the place of byte " + byteOfW, byteOfW, x.error(1));
        }
        NestPascal x = new NestPascal();
        check.due("write of \"begin en\"", true, x.write(0x626567696e20656eL));
        check.due("write of \"d.\"", true, x.write(0x642e000000000000L));
        check.due("compile()", 3, x.compile());
        check.due("write of a highest byte 126", true, x.write(0x7e00000000000000L));
        check.due("write of a highest byte 128", false, x.write(Long.MIN_VALUE));
        check.due("write of a highest byte 255", false, x.write(0xff00000000000000L));
    }

    private void zeroBytes() {
        NestPascal none = new NestPascal();
        check.due("write(0)", true, none.write(0));
        check.due("the length behind write(0)", 0, lengthOf(none));
        for (int zeros = 0; zeros < 256; zeros++) {
            long w = 0;
            for (int bit = 0; bit < 8; bit++) {
                w = w << 8 | ((zeros >> bit & 1) == 1 ? 0 : ' ');
            }
            NestPascal x = new NestPascal();
            check.due("write with zeros " + zeros, true, x.write(w));
            check.due("length with zeros " + zeros, 8 - Integer.bitCount(zeros), lengthOf(x));
        }
        NestPascal full = new NestPascal();
        Check.put(full, " ".repeat(180));
        check.due("write(0) where there is no room", true, full.write(0));
        check.due("write(1), which is not 0", false, new NestPascal().write(1));
    }

    private void wrongBytes() {
        for (long code : new long[] {1, 31, 127, 128, 255}) {
            for (int shift = 0; shift < 64; shift += 8) {
                NestPascal x = new NestPascal();
                Check.put(x, "begin en");
                long others = 0x7e7e7e7e7e7e7e7eL & ~(255L << shift);
                check.due("write of code " + code, false, x.write(others | code << shift));
                check.due("write of the right rest", true, x.write(Check.packed("d.")));
                check.due("compile() of a text that did not change", 3, x.compile());
            }
        }
        for (int shift = 0; shift < 64; shift += 8) {
            long others = 0x2020202020202020L & ~(255L << shift);
            NestPascal x = new NestPascal();
            check.due("write of code 126", true, x.write(others | 126L << shift));
            check.due("write of code 32", true, x.write(others | 32L << shift));
            Check.compileThrows(x);
            check.due("the place of code 126", 7 - shift / 8, x.error(1));
        }
    }

    private void moreThanRoom() {
        for (int room = 0; room < 8; room++) {
            NestPascal x = new NestPascal();
            Check.put(x, " ".repeat(180 - room));
            for (int more = 8; more > room; more--) {
                check.due("write of " + more + ", room for " + room, false, x.write(Check.packed("~".repeat(more))));
            }
            check.due("write of " + room + ", room for as many", true, x.write(Check.packed(" ".repeat(room))));
            check.due("write of one, no room", false, x.write('~'));
            check.due("the length", 180, lengthOf(x));
            check.due("write where there is room again", true, x.write(Check.packed("begin en")));
        }
        // Bytes that are 0 need no room.
        NestPascal x = new NestPascal();
        Check.put(x, " ".repeat(178));
        check.due("write of three among zeros, room for two", false, x.write(0x2000200020000000L));
        check.due("write of two among zeros, room for two", true, x.write(0x0020000000002000L));
        check.due("the length", 180, lengthOf(x));
    }

    /** A text of blanks has its error at its end. */
    private static int lengthOf(NestPascal x) {
        Check.compileThrows(x);
        return x.error(1);
    }
}
