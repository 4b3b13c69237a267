import java.io.IOException;
import java.lang.reflect.Constructor;
import java.lang.reflect.Field;
import java.lang.reflect.Method;
import java.lang.reflect.Modifier;
import java.nio.file.Files;
import java.nio.file.Path;
import java.util.ArrayList;
import java.util.Arrays;
import java.util.List;
import java.util.Set;
import java.util.TreeSet;
import java.util.regex.Matcher;
import java.util.regex.Pattern;

/** The public face as the document writes it, and the rules of LANGUAGE.md that a test can see. */
final class FaceTest {
    private static final Check check = new Check();
    private static final Path DOCUMENT = Path.of("../shared/DOC.md");
    private static final Path SOURCE = Path.of("src/main/java/TabText.java");
    private static final String[] FORBIDDEN = {
        "->", "::", "\\btry\\b", "\\bcatch\\b", "\\bfinally\\b", "\\bsynchronized\\b", "\\bassert\\b", "\\bimport\\b",
        "\\bpackage\\b", "\\bprotected\\b", "\\binstanceof\\b", "Exact\\(", "\\bstatic \\{", "System\\.(?!arraycopy)",
        "hashCode", "toString", "\\.equals\\(", "\\bNaN\\b", "Thread", "Random", "\\[\\]\\[\\]"
    };

    public static void main(String[] args) throws IOException {
        sameFace();
        sameConstants();
        sameGroups();
        nothingElseVisible();
        nestedClasses();
        sourceRules();
        everySectionTested();
        check.end("FaceTest");
    }

    /** Each section of the document is one of those whose sentences a test goes through. */
    private static void everySectionTested() throws IOException {
        StringBuilder tests = new StringBuilder();
        for (String name : new String[] {"Text", "Input", "Sign", "Line", "View", "Block"}) {
            tests.append(Files.readString(Path.of("src/test/java", name + "SentencesTest.java")));
        }
        check.due("the sections of the document", 34, () -> Document.sections().size());
        for (String section : Document.sections()) {
            boolean found = tests.indexOf("doc.section(\"" + section + "\");") >= 0;
            check.due("a test goes through " + section, true, () -> found);
        }
    }

    private static void sameFace() throws IOException {
        String document = Files.readString(DOCUMENT);
        String face = document.substring(document.indexOf("```java") + 7);
        face = face.substring(0, face.indexOf("```"));
        Set<String> due = new TreeSet<>();
        Matcher row = Pattern.compile("public ((?:int|long|double) \\w+\\(.*?\\).*);").matcher(face);
        while (row.find()) {
            String parameters = row.group(1).replaceAll("\\b(int|boolean|long|double) \\w+(?=[,)])", "$1");
            due.add(parameters);
        }
        Set<String> got = new TreeSet<>();
        for (Method method : TabText.class.getDeclaredMethods()) {
            if (Modifier.isPublic(method.getModifiers())) {
                got.add(written(method));
            }
        }
        check.due("the number of calls", 31, due::size);
        check.due("the public methods", due, () -> got);
        Constructor<?>[] made = TabText.class.getDeclaredConstructors();
        check.due("the constructors", "[public TabText()]", () -> Arrays.toString(made));
        check.due("the class", "public final", () -> Modifier.toString(TabText.class.getModifiers()));
    }

    /** The constants of the face, and no other one that can be seen. */
    private static void sameConstants() throws IOException {
        Set<String> due = new TreeSet<>();
        Matcher row = Pattern.compile("(public static final \\w+ \\w+ = .*);").matcher(Files.readString(DOCUMENT));
        while (row.find()) {
            due.add(row.group(1));
        }
        Set<String> got = new TreeSet<>();
        for (Field field : TabText.class.getFields()) {
            String value = Check.answer(() -> field.get(null));
            got.add(Modifier.toString(field.getModifiers()) + " " + field.getType() + " " + field.getName() + " = " + value);
        }
        check.due("the number of constants", 1, due::size);
        check.due("the constants", due, () -> got);
    }

    /** The groups of calls with the words that the document puts ahead of each one. */
    private static void sameGroups() throws IOException {
        List<String> due = new ArrayList<>();
        Matcher group = Pattern.compile("Ahead of the calls (.*) the interface says: (---- .*)\\.")
                .matcher(Files.readString(DOCUMENT));
        while (group.find()) {
            due.add(group.group(2));
            due.addAll(List.of(group.group(1).replace("`", "").split(", ")));
        }
        List<String> got = new ArrayList<>();
        Matcher row = Pattern.compile("(?m)^    (?:// (---- .*)|public \\w+ (\\w+)\\(.*)$").matcher(Files.readString(SOURCE));
        while (row.find()) {
            got.add(row.group(1) != null ? row.group(1) : row.group(2));
        }
        // Behind the public calls the class has a group of its own.
        int last = got.size() - 1;
        check.due("the groups and their calls", 36, due::size);
        check.due("the groups and their calls", due, () -> got.subList(0, last));
    }

    private static String written(Method method) {
        StringBuilder all = new StringBuilder(method.getReturnType().getName()).append(' ');
        all.append(method.getName()).append('(').append(names(method.getParameterTypes())).append(')');
        if (method.getExceptionTypes().length > 0) {
            all.append(" throws ").append(names(method.getExceptionTypes()));
        }
        return all.toString();
    }

    private static String names(Class<?>[] types) {
        return String.join(", ", Arrays.stream(types).map(Class::getSimpleName).toList());
    }

    private static void nothingElseVisible() {
        Set<String> publicNames = new TreeSet<>();
        for (Method method : TabText.class.getDeclaredMethods()) {
            if (Modifier.isPublic(method.getModifiers())) {
                publicNames.add(method.getName());
            }
        }
        for (Method method : TabText.class.getDeclaredMethods()) {
            boolean isPublic = Modifier.isPublic(method.getModifiers());
            boolean isPrivate = Modifier.isPrivate(method.getModifiers());
            check.due(method + " is public or private", true, () -> isPublic || isPrivate);
            boolean shared = isPrivate && publicNames.contains(method.getName());
            check.due(method + " has a name of its own", false, () -> shared);
        }
        for (Field field : TabText.class.getDeclaredFields()) {
            boolean isPrivate = Modifier.isPrivate(field.getModifiers());
            boolean isFinal = Modifier.isFinal(field.getModifiers());
            check.due(field + " is NONE or private", true, () -> isPrivate || field.getName().equals("NONE"));
            check.due(field + " is final", true, () -> isFinal || !Modifier.isStatic(field.getModifiers()));
        }
    }

    private static void nestedClasses() {
        Class<?>[] nested = TabText.class.getDeclaredClasses();
        check.due("at most twelve classes", true, () -> nested.length + 1 <= 12);
        for (Class<?> inside : nested) {
            check.due(inside + " is static", true, () -> Modifier.isStatic(inside.getModifiers()));
            check.due(inside + " is not public", false, () -> Modifier.isPublic(inside.getModifiers()));
            int fields = inside.getDeclaredFields().length;
            check.due(inside + " has at most 20 fields", true, () -> fields <= 20);
            for (Method method : inside.getDeclaredMethods()) {
                check.due(method + " takes at most 7", true, () -> method.getParameterCount() <= 7);
            }
        }
    }

    private static void sourceRules() throws IOException {
        String source = Files.readString(SOURCE);
        String code = source.replaceAll("(?s)/\\*.*?\\*/", "").replaceAll("//[^\n]*", "");
        check.due("only ASCII", true, () -> source.chars().allMatch(c -> c < 128));
        for (String pattern : FORBIDDEN) {
            check.due("no " + pattern, false, () -> Pattern.compile(pattern).matcher(code).find());
        }
        Matcher thrown = Pattern.compile("throw new (\\w+)\\(").matcher(code);
        Set<String> names = new TreeSet<>();
        while (thrown.find()) {
            names.add(thrown.group(1));
        }
        check.due("what is thrown",
                "[IllegalArgumentException, IllegalStateException, IndexOutOfBoundsException]", () -> names);
    }
}
