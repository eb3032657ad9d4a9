import java.io.File;
import java.io.IOException;
import java.lang.reflect.Method;
import java.lang.reflect.Modifier;
import java.nio.file.Files;
import java.nio.file.Path;
import java.util.ArrayList;
import java.util.List;

/** README.md: its example answers what it says, and it names every call and every test. Run from the project's root. */
public final class ReadmeTest {
    private static final IssueFold FOLD = new IssueFold();

    /** The lines of the example that tell an answer, without the remark behind it. */
    private static final List<String> TOLD = new ArrayList<>();

    private static int row = 0;

    public static void main(String[] args) throws IOException {
        String readme = Files.readString(Path.of("README.md"));
        takeExample(readme);
        runExample(readme);
        namesEveryCall(readme);
        namesEveryTest(readme);
        Check.end("ReadmeTest");
    }

    private static void takeExample(String readme) {
        String example = readme.substring(readme.indexOf("```java") + 7);
        for (String line : example.substring(0, example.indexOf("```")).split("\n")) {
            if (line.matches(".*// -?[0-9]+: .*")) {
                TOLD.add(line.replaceAll(" +// ", " ").replaceAll(": .*", ""));
            }
        }
    }

    private static void runExample(String readme) {
        write(readme, "A>B; B>C:p>2&r=1;");
        answers("fold.compile();", FOLD.compile());
        FOLD.role(1, 1);
        Check.due("README.md has the role", readme.contains("\nfold.role(1, 1);"), true);
        answers("fold.act(0, 0, 0, 0, 5);", FOLD.act(0, 0, 0, 0, 5));
        answers("fold.act(0, 1, 0, 0, 1);", FOLD.act(0, 1, 0, 0, 1));
        answers("fold.send(0, 1);", FOLD.send(0, 1));
        answers("fold.deliver(0);", FOLD.deliver(0));
        answers("fold.act(1, 1, 1, 0, 2);", FOLD.act(1, 1, 1, 0, 2));
        answers("fold.act(0, 2, 0, 0, 1);", FOLD.act(0, 2, 0, 0, 1));
        answers("fold.send(0, 1);", FOLD.send(0, 1));
        answers("fold.deliver(0);", FOLD.deliver(0));
        answers("fold.skipped(1, 16);", FOLD.skipped(1, 16));
        ask(readme, "s=B & n");
        answers("fold.query(1);", FOLD.query(1));
        answers("fold.result(0);", FOLD.result(0));
        answers("fold.issue(1, 0, 1);", FOLD.issue(1, 0, 1));
        Check.due("rows of the example", TOLD.size(), row);
    }

    private static void write(String readme, String text) {
        Check.due("README.md writes " + text, readme.contains("\"" + text + "\".toCharArray()) fold.write(c);"), true);
        Use.write(FOLD, text);
    }

    private static void ask(String readme, String text) {
        Check.due("README.md asks " + text, readme.contains("\"" + text + "\".toCharArray()) fold.ask(c);"), true);
        Use.ask(FOLD, text);
    }

    /** The next line of the example is this call, with the answer that the call gave. */
    private static void answers(String call, int answer) {
        String told = row < TOLD.size() ? TOLD.get(row) : "nothing";
        row++;
        Check.due("row " + row + " of the example", told, call + " " + answer);
    }

    private static void namesEveryCall(String readme) {
        for (Method m : IssueFold.class.getDeclaredMethods()) {
            if (Modifier.isPublic(m.getModifiers())) {
                Check.due("README.md has a row for " + m.getName(), readme.contains("\n| `" + m.getName() + "("), true);
            }
        }
    }

    private static void namesEveryTest(String readme) {
        Check.due("README.md names the command", readme.contains("\n    .ci/run\n"), true);
        String[] files = new File("src/test/java").list();
        Check.due("there are tests", files != null && files.length > 0, true);
        for (String file : files == null ? new String[0] : files) {
            if (file.endsWith("Test.java")) {
                String name = file.replace(".java", "");
                Check.due("README.md has a row for " + name, readme.contains("\n| " + name + " |"), true);
            }
        }
    }
}
