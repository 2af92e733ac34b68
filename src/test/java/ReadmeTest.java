import java.io.IOException;
import java.lang.reflect.InvocationTargetException;
import java.lang.reflect.Method;
import java.nio.charset.StandardCharsets;
import java.nio.file.Files;
import java.nio.file.Path;
import java.util.ArrayList;
import java.util.List;
import java.util.regex.Matcher;
import java.util.regex.Pattern;
import java.util.stream.Stream;

/** The run of calls in README.md has the answers that stand there, and the page names all the tests. */
public final class ReadmeTest {
    private static final Path PAGE = Path.of("README.md");
    private static final Path TESTS = Path.of("src", "test", "java");
    private static final Pattern RUN = Pattern.compile("```java\n(.*?)```", Pattern.DOTALL);
    private static final String FIRST_LINE = "LampStrip strip = new LampStrip();";
    private static final Pattern CALL = Pattern.compile("strip\\.(\\w+)\\((.*?)\\); +// (throws )?([^: ]+): (.+)");
    private static final int LEAST_CALLS = 20;

    private final LampStrip strip = new LampStrip();
    private int calls = 0;

    private ReadmeTest() {
    }

    public static void main(String[] args) throws IOException, IllegalAccessException {
        String page = Files.readString(PAGE, StandardCharsets.UTF_8);
        Matcher run = RUN.matcher(page);
        Checks.dueTrue("README.md has a run of calls", run.find());
        new ReadmeTest().makeRun(run.group(1).split("\n"));
        namesTheTests(page);
        Checks.end();
    }

    private void makeRun(String[] lines) throws IllegalAccessException {
        Checks.dueTrue("the run begins with a new object", lines[0].equals(FIRST_LINE));
        for (int i = 1; i < lines.length; i++) {
            if (!lines[i].isEmpty() && !lines[i].startsWith("// ")) {
                makeCall(lines[i]);
            }
        }
        Checks.dueTrue("the run has calls enough: " + calls, calls >= LEAST_CALLS);
    }

    private void makeCall(String line) throws IllegalAccessException {
        Matcher call = CALL.matcher(line);
        boolean isCall = call.matches();
        Checks.dueTrue("a call with its answer: " + line, isCall);
        if (isCall) {
            calls++;
            String[] arguments = call.group(2).isEmpty() ? new String[0] : call.group(2).split(", ");
            String due = (call.group(3) == null ? "" : call.group(3)) + call.group(4);
            String got = answerOf(call.group(1), arguments);
            Checks.dueTrue(line + " (answered " + got + ")", got.equals(due));
            if (call.group(1).equals("append")) {
                Checks.dueTrue("the text of " + line, call.group(5).equals('"' + textOf(arguments) + '"'));
            }
        }
    }

    private String answerOf(String name, String[] arguments) throws IllegalAccessException {
        for (Method method : LampStrip.class.getMethods()) {
            if (method.getName().equals(name) && method.getParameterCount() == arguments.length) {
                Object[] values = new Object[arguments.length];
                for (int i = 0; i < values.length; i++) {
                    values[i] = method.getParameterTypes()[i] == boolean.class
                            ? (Object) Boolean.valueOf(arguments[i]) : (Object) Long.decode(arguments[i]).intValue();
                }
                try {
                    return String.valueOf(method.invoke(strip, values));
                } catch (InvocationTargetException thrown) {
                    return "throws " + thrown.getCause().getClass().getSimpleName();
                }
            }
        }
        return "nothing, as there is no such method";
    }

    private static String textOf(String[] words) {
        StringBuilder text = new StringBuilder();
        for (String word : words) {
            for (int bits = 24; bits >= 0; bits -= 8) {
                text.append((char) (Long.decode(word).intValue() >> bits & 255));
            }
        }
        return text.toString();
    }

    private static void namesTheTests(String page) throws IOException {
        List<String> missing = new ArrayList<>();
        try (Stream<Path> files = Files.list(TESTS)) {
            files.map(file -> file.getFileName().toString()).filter(name -> name.endsWith("Test.java"))
                    .map(name -> name.replace(".java", ""))
                    .filter(name -> !page.contains("`" + name + "`")).forEach(missing::add);
        }
        Checks.dueTrue("the page names all tests but for " + missing, missing.isEmpty());
        Checks.dueTrue("it names the command that runs them", page.contains("```sh\n.ci/run\n```")
                && Files.isExecutable(Path.of(".ci", "run")));
    }
}
