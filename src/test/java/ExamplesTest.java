import java.io.IOException;
import java.nio.file.Files;
import java.nio.file.Path;
import java.util.regex.Matcher;
import java.util.regex.Pattern;

/** The four examples, call by call, as the document itself writes them. */
final class ExamplesTest {
    private static final Path DOCUMENT = Path.of("../shared/DOC.md");
    private static final Pattern EXAMPLE = Pattern.compile("(?m)^(\\d+)\\. [^:]+: (.*)\\.$");
    private static final Pattern STEP = Pattern.compile("(\\w+\\(.*\\)) = (.+)");
    private static final Check check = new Check();

    public static void main(String[] args) throws IOException {
        String document = Files.readString(DOCUMENT);
        int start = document.indexOf("\nExamples:");
        int end = document.indexOf("\nThe constants:");
        check.due("the document has examples", true, () -> start >= 0 && end > start);
        Matcher example = EXAMPLE.matcher(start >= 0 && end > start ? document.substring(start, end) : "");
        int found = 0;
        while (example.find()) {
            found++;
            run(example.group(1), example.group(2).split("; "));
        }
        int examples = found;
        check.due("how many examples there are", 4, () -> examples);
        check.end("ExamplesTest");
    }

    private static void run(String number, String[] steps) {
        TabText x = new TabText();
        for (String written : steps) {
            Matcher step = STEP.matcher(written);
            boolean isCall = step.matches();
            check.due(number + ": " + written + " is a call with its answer", true, () -> isCall);
            if (isCall) {
                // The document writes "throws E" where the tests write "throws.E".
                String want = step.group(2).replace("throws ", "throws.");
                String call = step.group(1);
                check.due(number + ": " + call, want, () -> Tried.answer(x, call));
            }
        }
    }
}
