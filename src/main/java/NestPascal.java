import java.util.Arrays;

/**
 * A compiler for a small language with procedures in procedures, and the machine whose code it
 * makes, on one stack with links to the frames around.
 */
public final class NestPascal {
    public static final int NONE = -1;

    private static final int TEXT_ROOM = 180;
    private static final int FIRST_CHARACTER = 32;
    private static final int LAST_CHARACTER = 126;
    private static final int MOST_STEPS = 200;
    /** The link, the base of the caller and the place to go on at: the first cells of a frame. */
    private static final int FRAME_HEAD = 3;

    private final char[] text = new char[TEXT_ROOM];
    private int textLength = 0;
    private final Compiler compiler = new Compiler();
    private final Code program = new Code();
    private final Machine machine = new Machine();

    public NestPascal() {
    }

    public boolean write(long w) {
        int added = 0;
        for (int shift = 56; shift >= 0; shift -= 8) {
            int character = byteOf(w, shift);
            if (character != 0) {
                if (character < FIRST_CHARACTER || character > LAST_CHARACTER) {
                    return false;
                }
                added++;
            }
        }
        if (added > TEXT_ROOM - textLength) {
            return false;
        }
        append(w);
        return true;
    }

    public int compile() throws IllegalArgumentException {
        int length = textLength;
        textLength = 0;
        // An error leaves by an exception from here, before program and machine are touched.
        compiler.translate(text, length);
        program.takeOver(compiler.made());
        machine.clear();
        return program.size();
    }

    public int error(int what) {
        switch (what) {
            case 0:
                return compiler.fault();
            case 1:
                return compiler.faultPlace();
            default:
                return NONE;
        }
    }

    public int code(int k, int what) {
        if (k == -1) {
            return program.size();
        }
        switch (what) {
            case 0:
                return program.operation(k);
            case 1:
                return program.links(k);
            case 2:
                return program.operand(k);
            default:
                return 0;
        }
    }

    public boolean start() {
        if (program.size() == 0) {
            return false;
        }
        machine.begin();
        return true;
    }

    public int run(int n) throws IllegalArgumentException {
        if (n < 0 || n > MOST_STEPS) {
            throw new IllegalArgumentException();
        }
        int steps = 0;
        while (steps < n && machine.isRunning()) {
            machine.step(program);
            steps++;
        }
        return steps;
    }

    public int about(int what) {
        return machine.fact(what);
    }

    public int cell(int k) {
        return machine.visibleCell(k);
    }

    public int written(int k) {
        return machine.output(k);
    }

    public int variable(int l, int a) {
        return machine.found(l, a);
    }

    private void append(long w) {
        for (int shift = 56; shift >= 0; shift -= 8) {
            int character = byteOf(w, shift);
            if (character != 0 && textLength < TEXT_ROOM) {
                text[textLength] = (char) character;
                textLength++;
            }
        }
    }

    private static int byteOf(long w, int shift) {
        return (int) (w >>> shift) & 255;
    }

    /** The kinds of tokens, with their spelling and, of operators, the operand of OPR. */
    private enum Token {
        VAR("var", 0), PROC("proc", 0), ARRAY("array", 0), BEGIN("begin", 0), END("end", 0),
        IF("if", 0), THEN("then", 0), ELSE("else", 0), WHILE("while", 0), DO("do", 0),
        WRITE("write", 0),
        PLUS("+", Code.ADD), MINUS("-", Code.SUBTRACT),
        TIMES("*", Code.MULTIPLY), OVER("/", Code.DIVIDE),
        EQUAL("=", Code.EQUAL), UNEQUAL("#", Code.UNEQUAL),
        LESS("<", Code.LESS), GREATER(">", Code.GREATER),
        ROUND_OPEN("(", 0), ROUND_CLOSE(")", 0), SQUARE_OPEN("[", 0), SQUARE_CLOSE("]", 0),
        COMMA(",", 0), SEMICOLON(";", 0), PERIOD(".", 0), BECOMES(":=", 0),
        NAME("", 0), NUMBER("", 0), TEXT_END("", 0), NO_TOKEN("", 0);

        private static final Token[] ALL = values();

        private final String spelling;
        private final int operator;

        Token(String spelling, int operator) {
            this.spelling = spelling;
            this.operator = operator;
        }

        int operator() {
            return operator;
        }

        boolean isSum() {
            return operator == Code.ADD || operator == Code.SUBTRACT;
        }

        boolean isProduct() {
            return operator == Code.MULTIPLY || operator == Code.DIVIDE;
        }

        boolean isRelation() {
            return operator >= Code.EQUAL && operator <= Code.GREATER;
        }

        /** The token that is spelled as the text from one place up to another, or NO_TOKEN. */
        static Token spelled(char[] text, int from, int to) {
            for (int i = 0; i < ALL.length; i++) {
                if (ALL[i].isSpelled(text, from, to)) {
                    return ALL[i];
                }
            }
            return NO_TOKEN;
        }

        private boolean isSpelled(char[] text, int from, int to) {
            int length = spelling.length();
            if (length == 0 || length != to - from || to > text.length) {
                return false;
            }
            for (int i = 0; i < length; i++) {
                if (spelling.charAt(i) != text[from + i]) {
                    return false;
                }
            }
            return true;
        }
    }

    /** The tokens of a text, one of which is at hand; the last one stands for the text's end. */
    private static final class Tokens {
        private static final int LONGEST_NAME = 6;
        private static final int LONGEST_NUMBER = 4;
        /** A token has a character at least, but for the one at the end. */
        private static final int ROOM = TEXT_ROOM + 1;

        private final Token[] kinds = new Token[ROOM];
        private final int[] places = new int[ROOM];
        private final int[] values = new int[ROOM];
        private int count = 0;
        private int atHand = 0;

        /** Cuts a text into tokens, the first of which is at hand then. */
        void cut(char[] text, int length) {
            count = 0;
            atHand = 0;
            int place = 0;
            while (place < length) {
                int behind = endOfToken(text, place, length);
                if (text[place] != ' ') {
                    add(kindOf(text, place, behind), place, valueOf(text, place, behind));
                }
                place = Math.max(behind, place + 1);
            }
            add(Token.TEXT_END, length, 0);
        }

        Token kind() {
            return kinds[atHand];
        }

        boolean isAt(Token kind) {
            return kinds[atHand] == kind;
        }

        /** Whether the token behind the one at hand is of a kind. */
        boolean isInFrontOf(Token kind) {
            return atHand + 1 < count && kinds[atHand + 1] == kind;
        }

        /** Where the first character of the token at hand stands. */
        int place() {
            return places[atHand];
        }

        /** What a number counts; of a name a number that no other name has. */
        int value() {
            return values[atHand];
        }

        void advance() {
            if (atHand + 1 < count) {
                atHand++;
            }
        }

        private void add(Token kind, int place, int value) {
            if (count < ROOM) {
                kinds[count] = kind;
                places[count] = place;
                values[count] = value;
                count++;
            }
        }

        private static int endOfToken(char[] text, int place, int length) {
            int end = place + 1;
            if (isLetter(text[place])) {
                while (end < length && isLetter(text[end])) {
                    end++;
                }
            } else if (isDigit(text[place])) {
                while (end < length && isDigit(text[end])) {
                    end++;
                }
            } else if (text[place] == ':' && end < length && text[end] == '=') {
                end++;
            }
            return end;
        }

        private static Token kindOf(char[] text, int from, int to) {
            if (isDigit(text[from])) {
                return to - from <= LONGEST_NUMBER ? Token.NUMBER : Token.NO_TOKEN;
            }
            Token spelled = Token.spelled(text, from, to);
            if (spelled == Token.NO_TOKEN && isLetter(text[from]) && to - from <= LONGEST_NAME) {
                return Token.NAME;
            }
            return spelled;
        }

        private static int valueOf(char[] text, int from, int to) {
            int value = 0;
            for (int i = from; i < to; i++) {
                if (isDigit(text[i])) {
                    value = value * 10 + text[i] - '0';
                } else {
                    // Five bits a letter: six of them, the longest name, fit into an int.
                    value = value << 5 | text[i] & 31;
                }
            }
            return value;
        }

        private static boolean isLetter(char c) {
            return c >= 'a' && c <= 'z';
        }

        private static boolean isDigit(char c) {
            return c >= '0' && c <= '9';
        }
    }

    /** What a name means. */
    private static final class Name {
        static final int VARIABLE = 0;
        static final int ARRAY = 1;
        static final int PROCEDURE = 2;

        private int id = 0;
        private int kind = VARIABLE;
        private int level = 0;
        /** The place in the frame; of a procedure, its first instruction. */
        private int place = 0;
        /** The cells of an array, the parameters of a procedure. */
        private int size = 0;
    }

    /** The names declared in the blocks that are open, the innermost block's last. */
    private static final class Names {
        private static final int HIGHEST_LEVEL = 4;
        /** A declaration takes two characters at least. */
        private static final int ROOM = TEXT_ROOM / 2;

        private final Name[] declared = new Name[ROOM];
        private int count = 0;
        private final int[] countAround = new int[HIGHEST_LEVEL + 1];
        private int level = 0;

        Names() {
            for (int i = 0; i < ROOM; i++) {
                declared[i] = new Name();
            }
        }

        void clear() {
            count = 0;
            level = 0;
        }

        int level() {
            return level;
        }

        boolean mayEnterBlock() {
            return level < HIGHEST_LEVEL;
        }

        void enterBlock() {
            if (level < HIGHEST_LEVEL) {
                level++;
                countAround[level] = count;
            }
        }

        void leaveBlock() {
            if (level > 0) {
                count = countAround[level];
                level--;
            }
        }

        /** The innermost declaration of a name, or null. */
        Name find(int id) {
            for (int i = count - 1; i >= 0; i--) {
                if (declared[i].id == id) {
                    return declared[i];
                }
            }
            return null;
        }

        boolean isDeclaredHere(int id) {
            Name found = find(id);
            return found != null && found.level == level;
        }

        Name declare(int id, int kind, int place) {
            Name name = declared[Math.min(count, ROOM - 1)];
            count = Math.min(count + 1, ROOM);
            name.id = id;
            name.kind = kind;
            name.level = level;
            name.place = place;
            name.size = 0;
            return name;
        }

        /** Gives the latest names, parameters, their places, which count back from the frame. */
        void placeParameters(int parameters) {
            for (int back = 1; back <= parameters && back <= count; back++) {
                declared[count - back].place = -back;
            }
        }
    }

    /** A row of instructions. */
    private static final class Code {
        static final int LIT = 0;
        static final int LOD = 1;
        static final int STO = 2;
        static final int LDX = 3;
        static final int STX = 4;
        static final int CAL = 5;
        static final int INT = 6;
        static final int JMP = 7;
        static final int JPC = 8;
        static final int OPR = 9;
        static final int CHK = 11;

        static final int END_BLOCK = 0;
        static final int NEGATE = 1;
        static final int ADD = 2;
        static final int SUBTRACT = 3;
        static final int MULTIPLY = 4;
        static final int DIVIDE = 5;
        static final int EQUAL = 6;
        static final int UNEQUAL = 7;
        static final int LESS = 8;
        static final int GREATER = 9;
        static final int OUTPUT = 10;

        /** No token brings more than one instruction, and none is shorter than a character. */
        private static final int ROOM = TEXT_ROOM;

        private final int[] operations = new int[ROOM];
        private final int[] links = new int[ROOM];
        private final int[] operands = new int[ROOM];
        private int size = 0;

        void clear() {
            size = 0;
        }

        int size() {
            return size;
        }

        /** Puts an instruction at the end and says where it stands. */
        int add(int operation, int link, int operand) {
            if (size >= ROOM) {
                return NONE;
            }
            operations[size] = operation;
            links[size] = link;
            operands[size] = operand;
            size++;
            return size - 1;
        }

        /** Lets a jump lead behind all instructions so far. */
        void leadHere(int jump) {
            if (isOne(jump)) {
                operands[jump] = size;
            }
        }

        void takeOver(Code other) {
            size = other.size;
            System.arraycopy(other.operations, 0, operations, 0, size);
            System.arraycopy(other.links, 0, links, 0, size);
            System.arraycopy(other.operands, 0, operands, 0, size);
        }

        int operation(int k) {
            return isOne(k) ? operations[k] : 0;
        }

        int links(int k) {
            return isOne(k) ? links[k] : 0;
        }

        int operand(int k) {
            return isOne(k) ? operands[k] : 0;
        }

        private boolean isOne(int k) {
            return k >= 0 && k < size;
        }
    }

    /** Reads the text once from the left to the right, making code on the way. */
    private static final class Compiler {
        private static final int MISPLACED = 1;
        private static final int UNKNOWN = 2;
        private static final int DECLARED_AGAIN = 3;
        private static final int WRONG_KIND = 4;
        private static final int WRONG_CALL = 5;
        private static final int BEYOND_LIMIT = 6;

        private static final int DEEPEST = 6;
        private static final int MOST_PARAMETERS = 3;
        private static final int LARGEST_ARRAY = 30;
        /** No row of things in a text is longer than the text: the bound of the loops over rows. */
        private static final int LONGEST_ROW = TEXT_ROOM;

        private final Tokens tokens = new Tokens();
        private final Names names = new Names();
        private final Code made = new Code();
        private int deep = 0;
        private int fault = NONE;
        private int faultPlace = NONE;

        int fault() {
            return fault;
        }

        int faultPlace() {
            return faultPlace;
        }

        Code made() {
            return made;
        }

        /** Makes the code of a text, or keeps its error and throws. */
        void translate(char[] text, int length) {
            names.clear();
            made.clear();
            deep = 0;
            fault = NONE;
            faultPlace = NONE;
            tokens.cut(text, length);
            block(0);
            expect(Token.PERIOD);
            expect(Token.TEXT_END);
        }

        private void block(int parameters) {
            int jump = made.add(Code.JMP, 0, 0);
            int cells = FRAME_HEAD;
            if (tokens.isAt(Token.VAR)) {
                tokens.advance();
                cells = declarations(cells);
            }
            for (int i = 0; i < LONGEST_ROW && tokens.isAt(Token.PROC); i++) {
                procedure();
            }
            made.leadHere(jump);
            made.add(Code.INT, 0, cells);
            expect(Token.BEGIN);
            statements();
            expect(Token.END);
            made.add(Code.OPR, parameters, Code.END_BLOCK);
        }

        /** Takes the first free place of the frame and gives the one behind the variables. */
        private int declarations(int firstPlace) {
            int place = firstPlace + declaration(firstPlace);
            for (int i = 0; i < LONGEST_ROW && tokens.isAt(Token.NAME); i++) {
                place += declaration(place);
            }
            return place;
        }

        /** Gives how many cells it takes. */
        private int declaration(int place) {
            Name name = declaredName(Name.VARIABLE, place);
            int cells = 1;
            if (tokens.isAt(Token.ARRAY)) {
                tokens.advance();
                cells = arraySize();
                name.kind = Name.ARRAY;
                name.size = cells;
            }
            expect(Token.SEMICOLON);
            return cells;
        }

        private int arraySize() {
            int size = tokens.value();
            int place = tokens.place();
            expect(Token.NUMBER);
            if (size < 1 || size > LARGEST_ARRAY) {
                fail(BEYOND_LIMIT, place);
            }
            return size;
        }

        private Name declaredName(int kind, int place) {
            int id = tokens.value();
            int placeInText = tokens.place();
            expect(Token.NAME);
            if (names.isDeclaredHere(id)) {
                fail(DECLARED_AGAIN, placeInText);
            }
            return names.declare(id, kind, place);
        }

        private void procedure() {
            if (!names.mayEnterBlock()) {
                fail(BEYOND_LIMIT, tokens.place());
            }
            tokens.advance();
            Name name = declaredName(Name.PROCEDURE, made.size());
            names.enterBlock();
            if (tokens.isAt(Token.ROUND_OPEN)) {
                name.size = parameters();
            }
            expect(Token.SEMICOLON);
            block(name.size);
            names.leaveBlock();
            expect(Token.SEMICOLON);
        }

        /** Gives how many there are. */
        private int parameters() {
            tokens.advance();
            declaredName(Name.VARIABLE, 0);
            int count = 1;
            while (count < MOST_PARAMETERS && tokens.isAt(Token.COMMA)) {
                tokens.advance();
                declaredName(Name.VARIABLE, 0);
                count++;
            }
            expect(Token.ROUND_CLOSE);
            names.placeParameters(count);
            return count;
        }

        private void statements() {
            statement(false);
            for (int i = 0; i < LONGEST_ROW && tokens.isAt(Token.SEMICOLON); i++) {
                tokens.advance();
                statement(false);
            }
        }

        private void statement(boolean elseMayFollow) {
            switch (tokens.kind()) {
                case NAME:
                    Name name = nameInFront();
                    if (name.kind == Name.PROCEDURE) {
                        call(name, elseMayFollow);
                    } else {
                        assignment(name);
                    }
                    break;
                case BEGIN:
                    compound();
                    break;
                case IF:
                    conditional(elseMayFollow);
                    break;
                case WHILE:
                    repetition(elseMayFollow);
                    break;
                case WRITE:
                    tokens.advance();
                    expression();
                    made.add(Code.OPR, 0, Code.OUTPUT);
                    break;
                default:
                    break;
            }
        }

        /** The meaning of the name in front of a statement, if it goes with the token behind. */
        private Name nameInFront() {
            Name name = knownName();
            boolean becomes = tokens.isInFrontOf(Token.BECOMES);
            boolean indexed = tokens.isInFrontOf(Token.SQUARE_OPEN);
            boolean fits;
            switch (name.kind) {
                case Name.PROCEDURE:
                    fits = !becomes && !indexed;
                    break;
                case Name.ARRAY:
                    fits = indexed;
                    break;
                default:
                    fits = becomes;
                    break;
            }
            if (!fits) {
                fail(WRONG_KIND, tokens.place());
            }
            tokens.advance();
            return name;
        }

        /** The meaning of the name at hand, which stays at hand. */
        private Name knownName() {
            Name name = names.find(tokens.value());
            if (name == null) {
                fail(UNKNOWN, tokens.place());
            }
            return name;
        }

        private void assignment(Name name) {
            boolean toElement = name.kind == Name.ARRAY;
            if (toElement) {
                // This [ stands in a statement, not in an expression: it makes nothing deeper.
                index(name);
            }
            expect(Token.BECOMES);
            expression();
            addNamed(toElement ? Code.STX : Code.STO, name);
        }

        private void call(Name procedure, boolean elseMayFollow) {
            if (tokens.isAt(Token.ROUND_OPEN)) {
                // Too deep is the lower error of the two, so it is looked for first.
                deepen();
                if (procedure.size == 0) {
                    fail(WRONG_CALL, tokens.place());
                }
                tokens.advance();
                int count = expressions();
                int place = tokens.place();
                expect(Token.ROUND_CLOSE);
                if (count != procedure.size) {
                    fail(WRONG_CALL, place);
                }
                deep--;
            } else if (procedure.size > 0) {
                fail(mayFollowStatement(elseMayFollow) ? WRONG_CALL : MISPLACED, tokens.place());
            }
            addNamed(Code.CAL, procedure);
        }

        private boolean mayFollowStatement(boolean elseMayFollow) {
            return tokens.isAt(Token.SEMICOLON) || tokens.isAt(Token.END)
                    || elseMayFollow && tokens.isAt(Token.ELSE);
        }

        private void compound() {
            deepen();
            tokens.advance();
            statements();
            expect(Token.END);
            deep--;
        }

        private void conditional(boolean elseMayFollow) {
            deepen();
            tokens.advance();
            condition();
            expect(Token.THEN);
            int jumpIfNot = made.add(Code.JPC, 0, 0);
            statement(true);
            if (tokens.isAt(Token.ELSE)) {
                tokens.advance();
                int jumpOver = made.add(Code.JMP, 0, 0);
                made.leadHere(jumpIfNot);
                statement(elseMayFollow);
                made.leadHere(jumpOver);
            } else {
                made.leadHere(jumpIfNot);
            }
            deep--;
        }

        private void repetition(boolean elseMayFollow) {
            deepen();
            tokens.advance();
            int again = made.size();
            condition();
            expect(Token.DO);
            int jumpIfNot = made.add(Code.JPC, 0, 0);
            statement(elseMayFollow);
            made.add(Code.JMP, 0, again);
            made.leadHere(jumpIfNot);
            deep--;
        }

        private void condition() {
            expression();
            Token relation = tokens.kind();
            if (!relation.isRelation()) {
                fail(MISPLACED, tokens.place());
            }
            tokens.advance();
            expression();
            made.add(Code.OPR, 0, relation.operator());
        }

        /** Gives how many there are. */
        private int expressions() {
            expression();
            int count = 1;
            while (count < LONGEST_ROW && tokens.isAt(Token.COMMA)) {
                tokens.advance();
                expression();
                count++;
            }
            return count;
        }

        private void expression() {
            boolean signed = tokens.isAt(Token.MINUS);
            if (signed) {
                tokens.advance();
            }
            term();
            if (signed) {
                made.add(Code.OPR, 0, Code.NEGATE);
            }
            for (int i = 0; i < LONGEST_ROW && tokens.kind().isSum(); i++) {
                int operator = tokens.kind().operator();
                tokens.advance();
                term();
                made.add(Code.OPR, 0, operator);
            }
        }

        private void term() {
            factor();
            for (int i = 0; i < LONGEST_ROW && tokens.kind().isProduct(); i++) {
                int operator = tokens.kind().operator();
                tokens.advance();
                factor();
                made.add(Code.OPR, 0, operator);
            }
        }

        private void factor() {
            switch (tokens.kind()) {
                case NUMBER:
                    made.add(Code.LIT, 0, tokens.value());
                    tokens.advance();
                    break;
                case NAME:
                    namedFactor();
                    break;
                case ROUND_OPEN:
                    deepen();
                    tokens.advance();
                    expression();
                    expect(Token.ROUND_CLOSE);
                    deep--;
                    break;
                default:
                    fail(MISPLACED, tokens.place());
                    break;
            }
        }

        private void namedFactor() {
            Name name = knownName();
            boolean indexed = tokens.isInFrontOf(Token.SQUARE_OPEN);
            if (name.kind == Name.PROCEDURE || indexed != (name.kind == Name.ARRAY)) {
                fail(WRONG_KIND, tokens.place());
            }
            tokens.advance();
            if (indexed) {
                deepen();
                index(name);
                deep--;
            }
            addNamed(indexed ? Code.LDX : Code.LOD, name);
        }

        private void index(Name array) {
            tokens.advance();
            expression();
            expect(Token.SQUARE_CLOSE);
            made.add(Code.CHK, 0, array.size);
        }

        private void addNamed(int operation, Name name) {
            made.add(operation, names.level() - name.level, name.place);
        }

        /** Counts what the token at hand opens; that this refuses more bounds the recursion. */
        private void deepen() {
            if (deep >= DEEPEST) {
                fail(MISPLACED, tokens.place());
            }
            deep++;
        }

        private void expect(Token kind) {
            if (!tokens.isAt(kind)) {
                fail(MISPLACED, tokens.place());
            }
            tokens.advance();
        }

        private void fail(int error, int place) {
            fault = error;
            faultPlace = place;
            throw new IllegalArgumentException();
        }
    }

    /** The stack machine. */
    private static final class Machine {
        private static final int CELLS = 200;
        private static final int OUTPUTS_KEPT = 8;

        private static final int IDLE = 0;
        private static final int RUNNING = 1;
        private static final int DONE = 2;
        private static final int FULL = 3;
        private static final int TRAPPED_BY_INDEX = 4;
        private static final int TRAPPED_BY_DIVISION = 5;

        private final int[] cells = new int[CELLS];
        private final int[] outputs = new int[OUTPUTS_KEPT];
        private int state = IDLE;
        private int next = 0;
        private int base = 0;
        private int top = -1;
        private int frames = 0;
        private int outputCount = 0;

        void clear() {
            Arrays.fill(cells, 0);
            state = IDLE;
            next = 0;
            base = 0;
            top = -1;
            frames = 0;
            outputCount = 0;
        }

        void begin() {
            clear();
            state = RUNNING;
            frames = 1;
        }

        boolean isRunning() {
            return state == RUNNING;
        }

        int fact(int what) {
            switch (what) {
                case 0:
                    return state;
                case 1:
                    return next;
                case 2:
                    return base;
                case 3:
                    return top;
                case 4:
                    return frames;
                case 5:
                    return outputCount;
                default:
                    return NONE;
            }
        }

        int visibleCell(int k) {
            // Between CAL and INT the head of the newest frame lies above the top.
            boolean inHead = k >= base && k < base + FRAME_HEAD;
            return k <= top || inHead ? at(k) : 0;
        }

        int output(int k) {
            if (k < 0 || k >= OUTPUTS_KEPT || k >= outputCount) {
                return 0;
            }
            return outputs[(outputCount - 1 - k) % OUTPUTS_KEPT];
        }

        int found(int links, int place) {
            if (state != RUNNING || links < 0) {
                return 0;
            }
            long k = (long) linked(links) + place;
            return k >= 0 && k <= top ? at((int) k) : 0;
        }

        void step(Code program) {
            int operation = program.operation(next);
            int links = program.links(next);
            int operand = program.operand(next);
            // Looked at beforehand, since nothing of a step that ends the machine so is done.
            int stateAfter = refusal(operation, operand);
            if (stateAfter != RUNNING) {
                state = stateAfter;
                return;
            }
            next++;
            perform(operation, links, operand);
        }

        /** The state that the instruction brings by what it lacks, RUNNING if it lacks nothing. */
        private int refusal(int operation, int operand) {
            switch (operation) {
                case Code.LIT:
                case Code.LOD:
                    return roomFor(1);
                case Code.CAL:
                    return roomFor(FRAME_HEAD);
                case Code.INT:
                    return roomFor(operand);
                case Code.CHK:
                    return at(top) >= 0 && at(top) < operand ? RUNNING : TRAPPED_BY_INDEX;
                case Code.OPR:
                    return operand == Code.DIVIDE && at(top) == 0 ? TRAPPED_BY_DIVISION : RUNNING;
                default:
                    return RUNNING;
            }
        }

        private int roomFor(int more) {
            return more <= CELLS - 1 - top ? RUNNING : FULL;
        }

        private void perform(int operation, int links, int operand) {
            switch (operation) {
                case Code.LIT:
                    push(operand);
                    break;
                case Code.LOD:
                    push(at(linked(links) + operand));
                    break;
                case Code.STO:
                    put(linked(links) + operand, pop());
                    break;
                case Code.LDX:
                    push(at(linked(links) + operand + pop()));
                    break;
                case Code.STX:
                    storeElement(linked(links) + operand);
                    break;
                case Code.CAL:
                    enter(links, operand);
                    break;
                case Code.INT:
                    reserve(operand);
                    break;
                case Code.JMP:
                    next = operand;
                    break;
                case Code.JPC:
                    if (pop() == 0) {
                        next = operand;
                    }
                    break;
                case Code.OPR:
                    operate(operand, links);
                    break;
                default:
                    break;
            }
        }

        private void storeElement(int array) {
            int value = pop();
            int index = pop();
            put(array + index, value);
        }

        private void enter(int links, int procedure) {
            int frame = top + 1;
            put(frame, linked(links));
            put(frame + 1, base);
            put(frame + 2, next);
            base = frame;
            next = procedure;
            frames++;
        }

        private void reserve(int count) {
            for (int i = FRAME_HEAD; i < count; i++) {
                put(top + 1 + i, 0);
            }
            top += count;
        }

        private void leave(int parameters) {
            int frame = base;
            base = at(frame + 1);
            next = at(frame + 2);
            top = frame - 1 - parameters;
            frames--;
            if (frame == 0) {
                state = DONE;
            }
        }

        private void operate(int operator, int parameters) {
            switch (operator) {
                case Code.END_BLOCK:
                    leave(parameters);
                    break;
                case Code.NEGATE:
                    push(-pop());
                    break;
                case Code.OUTPUT:
                    outputs[outputCount % OUTPUTS_KEPT] = pop();
                    outputCount++;
                    break;
                default:
                    int second = pop();
                    int first = pop();
                    push(combined(operator, first, second));
                    break;
            }
        }

        private static int combined(int operator, int first, int second) {
            switch (operator) {
                case Code.ADD:
                    return first + second;
                case Code.SUBTRACT:
                    return first - second;
                case Code.MULTIPLY:
                    return first * second;
                case Code.DIVIDE:
                    return second == 0 ? 0 : first / second;
                case Code.EQUAL:
                    return first == second ? 1 : 0;
                case Code.UNEQUAL:
                    return first != second ? 1 : 0;
                case Code.LESS:
                    return first < second ? 1 : 0;
                case Code.GREATER:
                    return first > second ? 1 : 0;
                default:
                    return 0;
            }
        }

        /** The base of the frame so many links away; none lies beyond the frame at 0. */
        private int linked(int links) {
            int frame = base;
            for (int i = 0; i < links && frame > 0; i++) {
                frame = at(frame);
            }
            return frame;
        }

        private void push(int value) {
            put(top + 1, value);
            top++;
        }

        private int pop() {
            int value = at(top);
            top--;
            return value;
        }

        private int at(int place) {
            return place >= 0 && place < CELLS ? cells[place] : 0;
        }

        private void put(int place, int value) {
            if (place >= 0 && place < CELLS) {
                cells[place] = value;
            }
        }
    }
}
