import java.io.IOException;

/**
 * One test for each sentence of the document that names a boundary, on both sides of it. The sentences are
 * held against the document: each must stand there, and none there may be without a test.
 */
public final class BoundaryTest {
    /** What the document says besides: no call can tell whether it holds, or another sentence names its boundary. */
    private static final String[] WITHOUT_BOUNDARY = {
        "A compiler for a small language with procedures in procedures, and the machine whose code it makes, "
            + "on one stack with links to the frames around.",
        "CODE: instructions, each an operation with l and a.",
        "How the state is held inside the object is free, as are the speed of each call, the text of toString "
            + "and the behaviour of equals and hashCode. Use of one object from several threads at once is not "
            + "promised to be safe. Nothing is promised beyond the answers and state changes described above, "
            + "and nothing about an object after its 512th call."};

    public static void main(String[] args) throws IOException {
        Check check = new Check();
        new TextBoundaries(check).all();
        new GrammarBoundaries(check).all();
        new ErrorBoundaries(check).all();
        new CodeBoundaries(check).all();
        new MachineBoundaries(check).all();
        if (Document.isThere()) {
            compare(check, Document.read());
        }
        System.out.println(check.sentences().size() + " sentences");
        check.finish();
    }

    private static void compare(Check check, Document document) {
        for (String words : check.sentences()) {
            if (!document.name(words)) {
                check.tell("the document does not say just once: " + words);
            }
        }
        for (String words : WITHOUT_BOUNDARY) {
            document.name(words);
        }
        for (String words : document.unnamed()) {
            check.tell("no test names: " + words);
        }
    }
}
