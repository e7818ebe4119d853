import java.io.IOException;
import java.nio.file.Files;
import java.nio.file.Path;
import java.util.stream.Stream;

/** What README.md shows can be done so: its example stands there word for word, and its tests are there. */
public final class ReadmeTest {
    private static final Check CHECK = new Check();
    private static final Path TESTS = Path.of("src/test/java");

    public static void main(String[] args) throws IOException {
        example();
        String readme = Files.readString(Path.of("README.md"));
        showsExample(readme);
        showsProgram(readme);
        namesEachMethod(readme);
        namesEachTest(readme);
        CHECK.finish();
    }

    private static void example() {
        String before = "var f; proc fact(n); begin if n > 1 then begin f := f * n; fact(n - 1) end end;";
        CHECK.due("5!", "state 2, the latest number is 120",
                Example.told(before + " begin f := 1; fact(5); write f end."));
        CHECK.due("a name that means nothing", "error 2 at 6", Example.told("begin y := 1 end."));
        CHECK.due("a division by 0", "state 5, the latest number is 7",
                Example.told("begin write 7; write 1 / 0 end."));
        CHECK.due("more than 200 steps", "state 2, the latest number is 50",
                Example.told("var i; begin while i < 50 do i := i + 1; write i end."));
        CHECK.due("a text without an end to its run", "state 1, the latest number is 0",
                Example.told("begin while 1 = 1 do end."));
        CHECK.due("180 characters", "state 2, the latest number is 0",
                Example.told("begin end." + " ".repeat(170)));
        String refused = "too long, or a character that is not 32 .. 126";
        CHECK.due("181 characters", refused, Example.told("begin end." + " ".repeat(171)));
        CHECK.due("a character 31", refused, Example.told("begin end.\u001f"));
        CHECK.due("a character beyond a byte", refused, Example.told("begin end.\u0120"));
    }

    private static void showsExample(String readme) throws IOException {
        String source = Files.readString(TESTS.resolve("Example.java"));
        CHECK.due("whether README.md shows the example", true,
                readme.contains("```java\n" + source + "```\n"));
    }

    private static void showsProgram(String readme) {
        String head = "```text\n";
        int from = readme.indexOf(head) + head.length();
        String text = readme.substring(from, readme.indexOf("\n```", from)).replace('\n', ' ');
        CHECK.due("the program that README.md shows", "state 2, the latest number is -27", Example.told(text));
    }

    private static void namesEachMethod(String readme) {
        String[] calls = {"write(w)", "compile()", "error(what)", "code(k, what)", "start()", "run(n)",
            "about(what)", "cell(k)", "written(k)", "variable(l, a)"};
        for (String call : calls) {
            CHECK.due("whether README.md tells of " + call, true, readme.contains("\n| `" + call + "` |"));
        }
    }

    private static void namesEachTest(String readme) throws IOException {
        try (Stream<Path> files = Files.list(TESTS)) {
            files.map(file -> file.getFileName().toString()).filter(name -> name.endsWith("Test.java"))
                    .map(name -> name.replace(".java", "")).sorted()
                    .forEach(name -> CHECK.due("whether README.md names " + name, true,
                            readme.contains("\n| `" + name + "` |")));
        }
    }
}
