import java.io.IOException;
import java.lang.reflect.InvocationTargetException;
import java.lang.reflect.Method;
import java.nio.file.DirectoryStream;
import java.nio.file.Files;
import java.nio.file.Path;
import java.util.List;
import java.util.regex.Matcher;
import java.util.regex.Pattern;

// What README.md says of the class and of its tests; the tests run in the project's directory.
public final class ReadmeTest {
    private static final Path PAGE = Path.of("README.md");
    private static final Path TESTS = Path.of("src", "test", "java");
    private static final String MAKING = "Groupbooks books = new Groupbooks();";
    private static final Pattern CALL =
        Pattern.compile("books\\.(\\w+)\\(([-0-9, ]*)\\); +// (?:(answers|throws) (\\S+): )?.*");

    private final Check check;

    ReadmeTest(Check check) {
        this.check = check;
    }

    void run() {
        check.test("README: the example answers what it says", this::theExample);
        check.test("README: 512 calls", this::mostCalls);
        check.test("README: each file of the tests is named", this::theTests);
    }

    private void theExample() {
        List<String> lines = lines();
        int first = lines.indexOf("```java") + 1;
        check.note(first > 0 && lines.get(first).equals(MAKING), "an object is made");
        Groupbooks books = new Groupbooks();
        int at = first + 1;
        while (!lines.get(at).equals("```")) {
            theCall(books, lines.get(at));
            at++;
        }
        check.note(at > first + 1, "calls are shown");
    }

    // A call of which no answer is said answers nothing.
    private void theCall(Groupbooks books, String line) {
        Matcher call = CALL.matcher(line);
        if (!call.matches()) {
            check.note(false, "no call: " + line);
            return;
        }
        String due = call.group(3) == null ? "null" : call.group(4);
        String got = answer(books, call.group(1), call.group(2).split(", "));
        check.note(got.equals(due), line + " answered " + got);
    }

    private static String answer(Groupbooks books, String name, String[] texts) {
        for (Method method : Groupbooks.class.getMethods()) {
            if (method.getName().equals(name)) {
                return answer(books, method, texts);
            }
        }
        return "no such method";
    }

    private static String answer(Groupbooks books, Method method, String[] texts) {
        Object[] arguments = new Object[method.getParameterCount()];
        for (int at = 0; at < arguments.length; at++) {
            arguments[at] = Integer.valueOf(texts[at]);
        }
        try {
            return String.valueOf(method.invoke(books, arguments));
        } catch (InvocationTargetException thrown) {
            return thrown.getCause().getClass().getSimpleName();
        } catch (IllegalAccessException thrown) {
            throw new IllegalStateException(thrown);
        }
    }

    private void mostCalls() {
        check.note(String.join(" ", lines()).contains("at most 512 calls"), "it is said");
    }

    private void theTests() {
        String page = String.join(" ", lines());
        int files = 0;
        try (DirectoryStream<Path> tests = Files.newDirectoryStream(TESTS, "*.java")) {
            for (Path file : tests) {
                String name = file.getFileName().toString().replace(".java", "");
                check.note(page.contains("`" + name + "`"), name + " is not named");
                files++;
            }
        } catch (IOException thrown) {
            throw new IllegalStateException(thrown);
        }
        check.note(files > 0, "there are tests");
    }

    private static List<String> lines() {
        try {
            return Files.readAllLines(PAGE);
        } catch (IOException thrown) {
            throw new IllegalStateException(thrown);
        }
    }
}
