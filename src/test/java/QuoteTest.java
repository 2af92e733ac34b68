import java.io.IOException;
import java.lang.reflect.Method;
import java.nio.charset.StandardCharsets;
import java.nio.file.Files;
import java.nio.file.Path;

/** Each sentence for which an edge test stands is one of the document, and each promise has such a test. */
public final class QuoteTest {
    private static final Path DOCUMENT = Path.of("..", "shared", "DOC.md");
    private static final int PROMISES = 26;
    private static final Class<?>[] TESTS = {EdgeTermsTest.class, EdgeSetupTest.class, EdgeScriptTest.class,
        EdgeCallsTest.class, EdgeChangesTest.class};

    private QuoteTest() {
    }

    public static void main(String[] args) throws IOException {
        int[] quotes = new int[PROMISES + 1];
        boolean isThere = Files.isReadable(DOCUMENT);
        String document = isThere ? joined(Files.readString(DOCUMENT, StandardCharsets.UTF_8)) : "";
        for (Class<?> tests : TESTS) {
            for (Method method : tests.getDeclaredMethods()) {
                Sentence sentence = method.getAnnotation(Sentence.class);
                if (sentence != null) {
                    quotes[sentence.promise()]++;
                    Checks.dueTrue("in the document: " + sentence.value(),
                            !isThere || document.contains(joined(sentence.value())));
                }
            }
        }
        for (int promise = 1; promise <= PROMISES; promise++) {
            Checks.dueTrue("promise " + promise + " has an edge test", quotes[promise] > 0);
        }
        Checks.end();
    }

    private static String joined(String text) {
        return text.replaceAll("\\s+", " ");
    }
}
