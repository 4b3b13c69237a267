import java.io.IOException;

/** The sentences of promises 1 to 5: a new object, append, clearInput, firstError, load. */
final class InputSentencesTest {
    private static final String ARGUMENT = Document.ARGUMENT;
    private static final String STATE = Document.STATE;
    private static final String FULL_CELL = Check.times("a", 16);
    private static Document doc;

    public static void main(String[] args) throws IOException {
        doc = new Document();
        doc.section("Promise 1: A new object");
        newObject();
        doc.section("Promise 2: append");
        append();
        doc.section("Promise 3: clearInput");
        clearInput();
        doc.section("Promise 4: firstError");
        firstError();
        doc.section("Promise 5: load");
        load();
        doc.end("InputSentencesTest");
    }

    private static void newObject() {
        doc.sentence("Creates a text with one line, which has one empty cell; the buffer is empty.");
        doc.fresh().due(1, "count(0)").due(1, "count(1)").due(0, "count(2)").due(0, "count(3)").due(0, "count(4)")
                .due(1, "count(5)").due(0, "count(6)").due(0, "count(7)").due(0, "count(8)");
        doc.fresh().due(1, "line(0, 0)").due(0, "cell(0, 0, 0)").due(0, "cell(0, 0, 1)").written("");
        doc.fresh().due(0, "clearInput()");
        doc.fresh().due(1, "append(97)");
        doc.fresh().refused(Document.OUT, "line(1, 0)", "cell(0, 1, 0)", "letter(0, 0, 0)", "block(0, 0)");
    }

    private static void append() {
        doc.sentence("Appends a character to the input buffer.");
        doc.fresh().then("append(97); append(98)").due(0, "setCell(0, 0)").written("ab");
        doc.sentence("the character code");
        doc.fresh().due(1, "append(32)").due(2, "append(126)").due(3, "append(65)");
        doc.sentence("Returns the new length of the buffer.");
        Tried all = doc.fresh();
        for (int length = 1; length <= 120; length++) {
            all.due(length, "append(97)");
        }
        doc.fresh().input("abc").then("clearInput()").due(1, "append(97)");

        doc.sentence("if code is not 32 to 126");
        doc.fresh().due(1, "append(32)").due(2, "append(126)");
        doc.used("a|b").input("q").refused(ARGUMENT, "append(31)", "append(127)", "append(-1)", "append(0)", "append(9)",
                "append(10)", "append(-97)", "append(255)", "append(353)", "append(MAX)", "append(MIN)");

        doc.sentence("if the buffer has 120 characters");
        doc.used("a|b").input(Check.times("a", 119)).due(120, "append(97)").refused(STATE, "append(97)", "append(32)",
                "append(126)");
        doc.fresh().input(Check.times("/", 120)).refusedFirst(ARGUMENT, "append(31)", STATE, "append(32)")
                .refusedFirst(ARGUMENT, "append(127)", STATE, "append(126)");
        doc.fresh().input(Check.times("a", 120)).then("clearInput()").due(1, "append(97)");
    }

    private static void clearInput() {
        doc.sentence("Clears the input buffer.");
        doc.on("q").input("abc").then("clearInput()").due(0, "firstError(0)").due(1, "setCell(0, 0)").written("");
        doc.on("q").input("!").due(0, "firstError(2)").then("clearInput()").due(1, "append(98)").due(1, "firstError(2)");
        doc.sentence("Returns the length that it had.");
        doc.fresh().due(0, "clearInput()").due(0, "clearInput()");
        doc.fresh().input("a").due(1, "clearInput()").due(0, "clearInput()");
        doc.fresh().input(Check.times("a", 120)).due(120, "clearInput()").due(0, "clearInput()");
    }

    private static void firstError() {
        doc.sentence("Finds the first syntax error of the buffer.");
        doc.fresh().input("ab!c!").due(2, "firstError(2)").due(2, "firstError(2)").due(5, "clearInput()");
        doc.sentence("0 to read it as a cell, 1 as a line, 2 as a text");
        doc.fresh().input("a|b/c").due(1, "firstError(0)").due(3, "firstError(1)").due(5, "firstError(2)");

        doc.sentence("the length of the buffer if there is none");
        doc.fresh().allDue(0, "firstError(0)", "firstError(1)", "firstError(2)");
        doc.fresh().input("a").allDue(1, "firstError(0)", "firstError(1)", "firstError(2)");
        // An error at the first place, and at the last one.
        doc.fresh().input("!a").allDue(0, "firstError(0)", "firstError(1)", "firstError(2)");
        doc.fresh().input("a!").allDue(1, "firstError(0)", "firstError(1)", "firstError(2)");
        String seven = Check.times(FULL_CELL + "|", 7);
        doc.fresh().input(seven).due(119, "firstError(1)").due(119, "firstError(2)").then("append(97)")
                .due(120, "firstError(1)").due(120, "firstError(2)").due(16, "firstError(0)");
        doc.fresh().input(seven + "|").due(119, "firstError(1)").due(119, "firstError(2)");
        doc.fresh().input(seven + "~").due(119, "firstError(1)").due(119, "firstError(2)");
        for (int code = 32; code <= 126; code++) {
            boolean sign = Character.isLetterOrDigit(code) || " .,-+:%()".indexOf(code) >= 0;
            doc.fresh().then("append(" + code + ")").due(sign ? 1 : 0, "firstError(0)")
                    .due(sign || code == '|' ? 1 : 0, "firstError(1)")
                    .due(sign || code == '|' || code == '/' ? 1 : 0, "firstError(2)");
        }

        doc.sentence("if kind is not 0 to 2");
        doc.used("a|b").input("a!").allDue(1, "firstError(0)", "firstError(2)")
                .refused(ARGUMENT, "firstError(-1)", "firstError(3)", "firstError(MAX)", "firstError(MIN)");
    }

    private static void load() {
        doc.sentence("Replaces the text by the one in the buffer, and clears the buffer.");
        doc.on("x|y/z").input("a|b/cc|d/").due(3, "load()").written("a|b/cc|d/").due(0, "clearInput()");
        doc.on("x|y/z").due(1, "load()").written("");
        doc.sentence("Returns the number of lines.");
        doc.fresh().due(1, "load()");
        doc.fresh().input("a").due(1, "load()");
        doc.fresh().input("/").due(2, "load()");
        doc.fresh().input(Check.times("/", 23)).due(24, "load()");

        doc.sentence("if the buffer is not a text");
        doc.used("a|b").input("c!").refused(STATE, "load()").due(2, "clearInput()").written("a|b");
        for (int code = 32; code <= 126; code++) {
            if (!Character.isLetterOrDigit(code) && " .,-+:%()|/".indexOf(code) < 0) {
                doc.used("a|b").then("append(" + code + ")").refused(STATE, "load()");
            }
        }
        // At each bound: 24 lines, 8 cells, 16 signs.
        doc.on("q").input(Check.times("/", 23)).due(24, "load()");
        doc.used("q").input(Check.times("/", 24)).refused(STATE, "load()");
        doc.on("q").input("/|||||||").due(2, "load()").due(8, "line(1, 0)");
        doc.used("q").input("/||||||||").refused(STATE, "load()");
        doc.on("q").input("|/" + FULL_CELL).due(2, "load()").due(16, "cell(1, 0, 0)");
        doc.used("q").input("|/" + FULL_CELL + "b").refused(STATE, "load()");
        // A buffer of 120 characters.
        doc.on("q").input(Check.times("a|b/", 23) + "0123456789|0123456789|01234").due(120, "append(53)")
                .due(24, "load()").due(3, "line(23, 0)").due(6, "cell(23, 2, 0)").due(0, "clearInput()");
    }
}
