import java.io.IOException;
import java.lang.reflect.Method;
import java.lang.reflect.Modifier;
import java.nio.file.Files;
import java.nio.file.Path;
import java.util.Set;
import java.util.TreeSet;
import java.util.regex.Matcher;
import java.util.regex.Pattern;

/** The README's example answers what it says, and its table names each call. */
final class ReadmeTest {
    private static final Pattern INPUT = Pattern.compile("for \\(char c : \"(.*)\"\\.toCharArray\\(\\)\\)");
    private static final Pattern STEP = Pattern.compile("(?m)^text\\.(\\w+\\(.*\\)); +// (-?\\d+)\\b");
    private static final Check check = new Check();

    public static void main(String[] args) throws IOException {
        String readme = Files.readString(Path.of("README.md"));
        TabText x = new TabText();
        example(x, fenced(readme, "```java\n"));
        String[] lines = fenced(readme, "```text\n").split("\n");
        check.due("the number of lines", lines.length, () -> x.count(0));
        for (int i = 0; i < lines.length; i++) {
            int line = i;
            check.due("line " + line, lines[line], () -> Check.shownLine(x, line).stripTrailing());
        }
        table(readme);
        check.end("ReadmeTest");
    }

    private static String fenced(String readme, String fence) {
        int start = readme.indexOf(fence);
        int end = readme.indexOf("```", start + fence.length());
        check.due("there is " + fence.strip(), true, () -> start >= 0 && end >= 0);
        return start >= 0 && end >= 0 ? readme.substring(start + fence.length(), end) : "";
    }

    private static void example(TabText x, String written) {
        Matcher input = INPUT.matcher(written);
        Check.input(x, input.find() ? input.group(1) : "");
        Matcher step = STEP.matcher(written);
        int steps = 0;
        while (step.find()) {
            steps++;
            String call = step.group(1);
            check.due(call, step.group(2), () -> Tried.answer(x, call));
        }
        int found = steps;
        long due = written.lines().filter(row -> row.startsWith("text.")).count();
        check.due("each call of the example has its answer", due, () -> found);
    }

    private static void table(String readme) {
        Set<String> named = new TreeSet<>();
        Matcher row = Pattern.compile("(?m)^\\| (`\\w+`(?:, `\\w+`)*) \\|").matcher(readme);
        while (row.find()) {
            named.addAll(Set.of(row.group(1).replace("`", "").split(", ")));
        }
        Set<String> calls = new TreeSet<>();
        for (Method method : TabText.class.getDeclaredMethods()) {
            if (Modifier.isPublic(method.getModifiers())) {
                calls.add(method.getName());
            }
        }
        check.due("the calls of the table", calls, () -> named);
    }
}
