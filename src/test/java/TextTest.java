/** Promises 1 and 2: a new object, write. */
public final class TextTest {
    private static final Check CHECK = new Check();

    public static void main(String[] args) {
        newObject();
        bytesInOrder();
        zerosAreLeftOut();
        wrongCharacters();
        room();
        CHECK.finish();
    }

    private static void newObject() {
        NestPascal x = new NestPascal();
        CHECK.due("about of a new object", "0 0 0 -1 0 0", Check.facts(x));
        CHECK.due("code(-1, 0)", 0, x.code(-1, 0));
        CHECK.due("code(0, 0)", 0, x.code(0, 0));
        CHECK.due("error(0)", NestPascal.NONE, x.error(0));
        CHECK.due("error(1)", NestPascal.NONE, x.error(1));
        CHECK.due("cell(0)", 0, x.cell(0));
        CHECK.due("written(0)", 0, x.written(0));
        CHECK.due("variable(0, 0)", 0, x.variable(0, 0));
        CHECK.due("run(200)", 0, x.run(200));
        CHECK.due("start()", false, x.start());
        CHECK.due("about behind a start in vain", "0 0 0 -1 0 0", Check.facts(x));
        CHECK.due("whether compile() throws", true, Check.compileThrows(x));
        CHECK.due("error(0) of no text", 1, x.error(0));
        CHECK.due("error(1) of no text", 0, x.error(1));
    }

    private static void bytesInOrder() {
        NestPascal x = new NestPascal();
        CHECK.due("write", true, x.write(0x626567696e202020L));
        CHECK.due("write", true, x.write(0x656e642e00000000L));
        CHECK.due("compile()", 3, x.compile());
    }

    private static void zerosAreLeftOut() {
        NestPascal x = new NestPascal();
        CHECK.due("write(0)", true, x.write(0));
        CHECK.due("write with zeros between", true, x.write(0x0062006567006900L));
        CHECK.due("write with zeros in front", true, x.write(0x000000006e20656eL));
        CHECK.due("write with zeros behind", true, x.write(0x642e000000000000L));
        CHECK.due("compile()", 3, x.compile());
    }

    private static void wrongCharacters() {
        long[] wrong = {31, 127, 128, 255, 10, 1};
        for (long character : wrong) {
            for (int shift = 0; shift < 64; shift += 8) {
                NestPascal x = new NestPascal();
                long blanks = 0x2020202020202020L & ~(255L << shift);
                CHECK.due("write of code " + character, false, x.write(blanks | character << shift));
                CHECK.due("length behind it", 0, lengthOf(x));
            }
        }
        NestPascal x = new NestPascal();
        CHECK.due("write of 32 and 126", true, x.write(0x207e));
        Check.compileThrows(x);
        CHECK.due("place of ~", 1, x.error(1));
        CHECK.due("write(-1)", false, x.write(-1));
    }

    private static void room() {
        NestPascal x = new NestPascal();
        Check.put(x, " ".repeat(176));
        CHECK.due("write of five where there is room for four", false, x.write(0x2020202020L));
        CHECK.due("write of eight where there is room for four", false, x.write(0x2020202020202020L));
        CHECK.due("write of four", true, x.write(0x2000200020002000L));
        CHECK.due("write of one where there is no room", false, x.write(0x20));
        CHECK.due("write of none where there is no room", true, x.write(0));
        CHECK.due("length", 180, lengthOf(x));
        CHECK.due("write behind compile", true, x.write(0x20));
        CHECK.due("length", 1, lengthOf(x));
    }

    /** A text of blanks has its error at its end. */
    private static int lengthOf(NestPascal x) {
        Check.compileThrows(x);
        return x.error(1);
    }
}
