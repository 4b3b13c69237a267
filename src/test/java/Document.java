import java.io.IOException;
import java.nio.file.Files;
import java.nio.file.Path;
import java.util.ArrayList;
import java.util.LinkedHashSet;
import java.util.List;
import java.util.Set;
import java.util.regex.Matcher;
import java.util.regex.Pattern;

/**
 * The document, sentence by sentence. A test says which section and which sentence its answers belong
 * to; at the end each sentence of its sections must have had one, each exception of their calls a call
 * that is refused with it, and each two exceptions of a call one where both apply.
 */
final class Document {
    static final String OUT = "IndexOutOfBoundsException";
    static final String ARGUMENT = "IllegalArgumentException";
    static final String STATE = "IllegalStateException";

    private static final Path FILE = Path.of("../shared/DOC.md");
    // Terms has headings without a mark, such as "Widths and alignment."
    private static final Pattern HEADING = Pattern.compile("[A-Z][a-z]+( [a-z]+){0,2}\\.");
    private static final String SENTENCE_END = "(?<=[a-z0-9\")]\\.) (?=[A-Z])";

    private final String text;
    private final Set<String> due = new LinkedHashSet<>();
    private List<String> sentences = List.of();
    private String section = "";
    private String sentence = "";
    private String quoted = "";
    private int asked = 0;
    private int askedBefore = 0;
    private int wrong = 0;

    Document() throws IOException {
        text = Files.readString(FILE);
    }

    /** The headings of all sections that say what a call does. */
    static List<String> sections() throws IOException {
        List<String> found = new ArrayList<>(List.of("What it is", "Terms"));
        Matcher heading = Pattern.compile("(?m)^## (Promise \\d+: .*)$").matcher(Files.readString(FILE));
        while (heading.find()) {
            found.add(heading.group(1));
        }
        return found;
    }

    void section(String heading) {
        closeSentence();
        section = heading;
        sentences = sentencesOf(heading);
        if (sentences.isEmpty()) {
            complain("the document has no such section");
        }
        for (String one : sentences) {
            due.add(heading + ": " + one);
        }
        if (heading.startsWith("Promise")) {
            requireExceptions(heading.substring(heading.indexOf(": ") + 2));
        }
    }

    private List<String> sentencesOf(String heading) {
        int start = text.indexOf("## " + heading + "\n");
        if (start < 0) {
            return List.of();
        }
        String body = text.substring(text.indexOf('\n', start));
        int end = body.indexOf("\n## ");
        body = end < 0 ? body : body.substring(0, end);
        // The examples are ExamplesTest's.
        int examples = body.indexOf("\nExamples:");
        body = examples < 0 ? body : body.substring(0, examples);
        List<String> found = new ArrayList<>();
        for (String row : body.split("\n")) {
            for (String one : row.split(SENTENCE_END)) {
                boolean isHeading = heading.equals("Terms") && HEADING.matcher(one).matches();
                if (!one.isBlank() && !isHeading) {
                    found.add(one);
                }
            }
        }
        return found;
    }

    private void requireExceptions(String call) {
        List<String> thrown = thrownBy(call);
        for (int i = 0; i < thrown.size(); i++) {
            due.add(refusal(call, thrown.get(i)));
            for (int j = i + 1; j < thrown.size(); j++) {
                due.add(precedence(call, thrown.get(i), thrown.get(j)));
            }
        }
    }

    private List<String> thrownBy(String call) {
        Matcher row = Pattern.compile("public \\w+ " + call + "\\(.*\\) throws (.*);").matcher(text);
        return row.find() ? List.of(row.group(1).split(", ")) : List.of();
    }

    private static String refusal(String call, String exception) {
        return call + " is refused with " + exception;
    }

    private static String precedence(String call, String first, String second) {
        return call + " throws " + first + " where " + second + " applies, too";
    }

    /** The next answers belong to the sentence of the section that has these words. */
    void sentence(String words) {
        closeSentence();
        List<String> found = sentences.stream().filter(one -> one.contains(words)).toList();
        quoted = words;
        sentence = found.isEmpty() ? "" : found.get(0);
        if (found.size() != 1) {
            complain(found.size() + " sentences have the words: " + words);
        }
    }

    private void closeSentence() {
        if (asked > askedBefore) {
            due.remove(section + ": " + sentence);
        } else if (!quoted.isEmpty()) {
            complain("no answer was looked at");
        }
        askedBefore = asked;
        quoted = "";
    }

    Tried fresh() {
        return new Tried(this);
    }

    /** A new object with a text, written as for the input buffer. */
    Tried on(String written) {
        return fresh().input(written).then("load()");
    }

    /** Like on, but with texts that are kept for undo and for redo, and an alignment that was set. */
    Tried used(String written) {
        return on("k|k").input(written).then("load(); moveLine(0, 0); undo(); setAlignment(6, 2)");
    }

    void compare(String what, Object want, Object got) {
        asked++;
        if (!String.valueOf(want).equals(String.valueOf(got))) {
            complain(what + " answered " + got + ", due is " + want);
        }
    }

    void wasRefused(String call, String exception) {
        due.remove(refusal(call, exception));
    }

    void cameFirst(String call, String first, String second) {
        due.remove(precedence(call, first, second));
    }

    void complain(String what) {
        wrong++;
        System.out.println(section + " [" + quoted + "] " + what);
    }

    void end(String name) {
        closeSentence();
        for (String one : due) {
            System.out.println("not tested: " + one);
        }
        System.out.println(name + ": " + asked + " answers, " + wrong + " wrong, " + due.size() + " not tested");
        if (wrong > 0 || asked == 0 || !due.isEmpty()) {
            System.exit(1);
        }
    }
}
