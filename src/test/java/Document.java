import java.io.IOException;
import java.nio.file.Files;
import java.nio.file.Path;
import java.util.ArrayList;
import java.util.List;

/** The words of the document, to see which of its sentences the tests name. */
final class Document {
    private static final Path PLACE = Path.of("../shared/DOC.md");

    private final String words;
    private final boolean[] named;

    private Document(String words) {
        this.words = words;
        this.named = new boolean[words.length()];
    }

    static boolean isThere() {
        return Files.isReadable(PLACE);
    }

    /** Its words with one blank between, without headings, Java code and the heads of methods. */
    static Document read() throws IOException {
        StringBuilder all = new StringBuilder();
        boolean inJava = false;
        for (String line : Files.readAllLines(PLACE)) {
            if (line.startsWith("```")) {
                inJava = line.equals("```java");
            } else if (!inJava && !line.startsWith("#")) {
                all.append(line).append(' ');
            }
        }
        String words = all.toString().replaceAll("`[^`]*\\)( throws \\w+)?`: ", "");
        return new Document(words.replaceAll("\\s+", " ").trim());
    }

    /** Marks a sentence, or part of one, as named; false if it does not stand there just once. */
    boolean name(String sentence) {
        int place = words.indexOf(sentence);
        if (place < 0 || words.indexOf(sentence, place + 1) >= 0) {
            return false;
        }
        for (int i = 0; i < sentence.length(); i++) {
            named[place + i] = true;
        }
        return true;
    }

    /** The words between those that have been named. */
    List<String> unnamed() {
        List<String> rest = new ArrayList<>();
        StringBuilder row = new StringBuilder();
        for (int i = 0; i <= words.length(); i++) {
            if (i < words.length() && !named[i]) {
                row.append(words.charAt(i));
            } else {
                if (!row.toString().isBlank()) {
                    rest.add(row.toString().trim());
                }
                row.setLength(0);
            }
        }
        return rest;
    }
}
