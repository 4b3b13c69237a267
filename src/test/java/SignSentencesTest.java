import java.io.IOException;

/** The sentences of promises 6 to 8: type, erase, setCell. */
final class SignSentencesTest {
    private static final String OUT = Document.OUT;
    private static final String ARGUMENT = Document.ARGUMENT;
    private static final String STATE = Document.STATE;
    private static final String FULL_CELL = Check.times("a", 16);
    private static final String FULL_TEXT = Check.times("/", 23);
    private static Document doc;

    public static void main(String[] args) throws IOException {
        doc = new Document();
        doc.section("Promise 6: type");
        typed();
        typePlaces();
        typeCodes();
        typeFull();
        doc.section("Promise 7: erase");
        erased();
        erasePlaces();
        eraseJoins();
        doc.section("Promise 8: setCell");
        setCell();
        doc.end("SignSentencesTest");
    }

    private static void typed() {
        doc.sentence("Types a sign, a tab or a line end at a place of a cell.");
        doc.on("ab|cd/ef").then("type(0, 1, 1, 'X')").written("ab|cXd/ef");
        doc.on("ab|cd/ef").then("type(0, 1, 1, 9)").written("ab|c|d/ef");
        doc.on("ab|cd/ef").then("type(0, 1, 1, 10)").written("ab|c/d/ef");

        doc.sentence("A tab divides the cell there; a line end makes what is behind the place");
        doc.on("ab|cd").then("type(0, 0, 0, 9)").written("|ab|cd");
        doc.on("ab|cd").then("type(0, 0, 2, 9)").written("ab||cd");
        doc.on("ab|cd").then("type(0, 1, 2, 9)").written("ab|cd|");
        doc.on("").then("type(0, 0, 0, 9)").written("|");
        doc.on("ab|cd|e/f").then("type(0, 0, 0, 10)").written("/ab|cd|e/f");
        doc.on("ab|cd|e/f").then("type(0, 0, 2, 10)").written("ab/|cd|e/f");
        doc.on("ab|cd|e/f").then("type(0, 2, 1, 10)").written("ab|cd|e//f");
        doc.on("ab|cd|e/f").then("type(1, 0, 1, 10)").written("ab|cd|e/f/");
        doc.on("").then("type(0, 0, 0, 10)").written("/");

        doc.sentence("Returns the new length of the cell for a sign");
        doc.fresh().due(1, "type(0, 0, 0, 'a')").due(2, "type(0, 0, 0, 'b')").due(2, "type(0, 0, 1, 9)")
                .due(3, "type(0, 1, 0, 9)").due(1, "type(0, 1, 0, 'c')").due(2, "type(0, 2, 1, 10)")
                .due(3, "type(1, 0, 0, 10)").written("b|c|a//");
        // What is returned for a line end and a tab counts the line of the place, not another one.
        doc.on("a|b|c/d").due(2, "type(1, 0, 0, 9)");
        doc.on("abc/d").due(2, "type(1, 0, 0, 'x')");
    }

    private static void typePlaces() {
        doc.sentence("- `line`: number of the line");
        doc.on("a/b/c").due(2, "type(0, 0, 0, 'x')").due(2, "type(2, 0, 0, 'x')").written("xa/b/xc");
        doc.used("a/b/c").refused(OUT, "type(-1, 0, 0, 'x')", "type(3, 0, 0, 'x')", "type(MAX, 0, 0, 'x')",
                "type(MIN, 0, 0, 'x')");
        doc.on(FULL_TEXT).due(1, "type(23, 0, 0, 'x')");
        doc.used(FULL_TEXT).refused(OUT, "type(24, 0, 0, 'x')");
        doc.sentence("- `cell`: number of the cell");
        doc.on("a|b|c/d").due(2, "type(0, 0, 0, 'x')").due(2, "type(0, 2, 0, 'x')").written("xa|b|xc/d");
        doc.used("a|b|c/d").refused(OUT, "type(0, -1, 0, 'x')", "type(0, 3, 0, 'x')", "type(1, 1, 0, 'x')",
                "type(0, MAX, 0, 'x')", "type(0, MIN, 0, 'x')");
        doc.on("|||||||").due(1, "type(0, 7, 0, 'x')");
        doc.used("|||||||/").refused(OUT, "type(0, 8, 0, 'x')", "type(1, 1, 0, 'x')");
        doc.sentence("- `offset`: the offset, 0 to the length of the cell");
        doc.on("abc|d").due(4, "type(0, 0, 0, 'x')").due(5, "type(0, 0, 4, 'y')").written("xabcy|d");
        doc.used("abc|d").refused(OUT, "type(0, 0, -1, 'x')", "type(0, 0, 4, 'x')", "type(0, 1, 2, 'x')",
                "type(0, 0, MAX, 'x')", "type(0, 0, MIN, 'x')");

        doc.sentence("if the line, the cell or the offset does not exist");
        for (String code : new String[] {"'x'", "9", "10"}) {
            doc.used("ab|c/d").refused(OUT, "type(-1, 0, 0, " + code + ")", "type(2, 0, 0, " + code + ")",
                    "type(0, -1, 0, " + code + ")", "type(0, 2, 0, " + code + ")", "type(1, 1, 0, " + code + ")",
                    "type(0, 0, -1, " + code + ")", "type(0, 0, 3, " + code + ")", "type(1, 0, 2, " + code + ")");
        }
        doc.used("ab").refusedFirst(OUT, "type(1, 0, 0, '!')", ARGUMENT, "type(0, 0, 0, '!')")
                .refusedFirst(OUT, "type(0, 1, 0, '!')", ARGUMENT, "type(0, 0, 0, '!')")
                .refusedFirst(OUT, "type(0, 0, 3, '!')", ARGUMENT, "type(0, 0, 2, '!')");
        doc.used(FULL_CELL).refusedFirst(OUT, "type(0, 0, 17, 'x')", STATE, "type(0, 0, 16, 'x')")
                .refusedFirst(OUT, "type(0, 0, -1, 'x')", STATE, "type(0, 0, 0, 'x')");
        doc.used("|||||||").refusedFirst(OUT, "type(0, 8, 0, 9)", STATE, "type(0, 7, 0, 9)");
        doc.used(FULL_TEXT).refusedFirst(OUT, "type(24, 0, 0, 10)", STATE, "type(23, 0, 0, 10)");
    }

    private static void typeCodes() {
        doc.sentence("- `code`: the code of a sign, 9 for a tab, 10 for a line end");
        doc.fresh().due(2, "type(0, 0, 0, 9)").written("|");
        doc.fresh().due(2, "type(0, 0, 0, 10)").written("/");
        doc.fresh().due(1, "type(0, 0, 0, 32)").written(" ");

        doc.sentence("if code is none of these codes");
        // The codes next to those that are allowed.
        doc.used("ab").refused(ARGUMENT, "type(0, 0, 0, 8)", "type(0, 0, 0, 11)", "type(0, 0, 0, 13)", "type(0, 0, 0, 31)",
                "type(0, 0, 0, '!')", "type(0, 0, 0, '/')", "type(0, 0, 0, ';')", "type(0, 0, 0, '@')",
                "type(0, 0, 0, '[')", "type(0, 0, 0, '`')", "type(0, 0, 0, '{')", "type(0, 0, 0, '|')",
                "type(0, 0, 0, '$')", "type(0, 0, 0, '&')", "type(0, 0, 0, '*')", "type(0, 0, 0, 0)",
                "type(0, 0, 0, -1)", "type(0, 0, 0, 127)", "type(0, 0, 0, 353)", "type(0, 0, 0, MAX)",
                "type(0, 0, 0, MIN)");
        doc.used(FULL_CELL).refusedFirst(ARGUMENT, "type(0, 0, 16, '!')", STATE, "type(0, 0, 16, 'x')");
        doc.used("|||||||").refusedFirst(ARGUMENT, "type(0, 0, 0, 8)", STATE, "type(0, 0, 0, 9)");
        doc.used(FULL_TEXT).refusedFirst(ARGUMENT, "type(0, 0, 0, 11)", STATE, "type(0, 0, 0, 10)");
    }

    private static void typeFull() {
        doc.sentence("if the cell would have more than 16 signs, the line more than 8 cells, or the text more than 24");
        doc.on("q|" + FULL_CELL.substring(1)).due(16, "type(0, 1, 7, 'x')").due(16, "cell(0, 1, 0)");
        doc.used("q|" + FULL_CELL).refused(STATE, "type(0, 1, 0, 'x')", "type(0, 1, 7, ' ')", "type(0, 1, 16, 'x')");
        doc.on("q/||||||").due(8, "type(1, 6, 0, 9)").due(8, "line(1, 0)");
        doc.used("q/|||||||").refused(STATE, "type(1, 0, 0, 9)", "type(1, 7, 0, 9)");
        doc.on(FULL_TEXT.substring(1)).due(24, "type(22, 0, 0, 10)").due(24, "count(0)");
        doc.used(FULL_TEXT).refused(STATE, "type(0, 0, 0, 10)", "type(23, 0, 0, 10)");
        // What is full in one way can be typed into in the other ways.
        doc.on(FULL_CELL).due(2, "type(0, 0, 8, 9)").written("aaaaaaaa|aaaaaaaa");
        doc.on(FULL_CELL).due(2, "type(0, 0, 16, 10)").written(FULL_CELL + "/");
        doc.on("|||||||").due(1, "type(0, 7, 0, 'x')").due(2, "type(0, 7, 0, 10)").written("|||||||/x");
        doc.on(FULL_TEXT).due(1, "type(23, 0, 0, 'x')").due(2, "type(23, 0, 0, 9)").due(24, "count(0)");
        // Another cell or another line is full, but not this one.
        doc.on(FULL_CELL + "|b").due(2, "type(0, 1, 0, 'x')");
        doc.on("|||||||/b").due(2, "type(1, 0, 0, 9)");
    }

    private static void erased() {
        doc.sentence("Erases what is behind a place of a cell");
        doc.on("abc|d").then("erase(0, 0, 0)").written("bc|d");
        doc.on("abc|d").then("erase(0, 0, 2)").written("ab|d");
        doc.on("abc|d").then("erase(0, 0, 3)").written("abcd");
        doc.on("|").then("erase(0, 0, 0)").written("");
        doc.on("ab|cd/ef|g|h/i").then("erase(0, 1, 2)").written("ab|cdef|g|h/i");
        doc.on("/").then("erase(0, 0, 0)").written("");
        doc.on("//a|b").then("erase(1, 0, 0)").written("/a|b");

        doc.sentence("Returns the code of what was erased, 9 for a tab, 10 for a line end.");
        doc.on("a |/b").due((int) 'a', "erase(0, 0, 0)").due(32, "erase(0, 0, 0)").due(9, "erase(0, 0, 0)")
                .due(10, "erase(0, 0, 0)").due((int) 'b', "erase(0, 0, 0)").refused(STATE, "erase(0, 0, 0)");
    }

    private static void erasePlaces() {
        doc.sentence("- `line`: number of the line");
        doc.on("a/b/c").due((int) 'a', "erase(0, 0, 0)").due((int) 'c', "erase(2, 0, 0)");
        doc.used("a/b/c").refused(OUT, "erase(-1, 0, 0)", "erase(3, 0, 0)", "erase(MAX, 0, 0)", "erase(MIN, 0, 0)");
        doc.sentence("- `cell`: number of the cell");
        doc.on("a|b|c/d").due((int) 'a', "erase(0, 0, 0)").due((int) 'c', "erase(0, 2, 0)");
        doc.used("a|b|c/d").refused(OUT, "erase(0, -1, 0)", "erase(0, 3, 0)", "erase(1, 1, 0)", "erase(0, MAX, 0)",
                "erase(0, MIN, 0)");
        doc.sentence("- `offset`: the offset, 0 to the length of the cell");
        doc.on("abc|d").due((int) 'a', "erase(0, 0, 0)").due(9, "erase(0, 0, 2)");
        doc.used("abc|d/e").refused(OUT, "erase(0, 0, -1)", "erase(0, 0, 4)", "erase(0, 1, 2)", "erase(0, 0, MAX)",
                "erase(0, 0, MIN)");

        doc.sentence("if the line, the cell or the offset does not exist");
        doc.used("ab|c/d").refused(OUT, "erase(2, 0, 0)", "erase(0, 2, 0)", "erase(0, 0, 3)", "erase(1, 0, 2)");
        doc.used("ab").refusedFirst(OUT, "erase(0, 0, 3)", STATE, "erase(0, 0, 2)")
                .refusedFirst(OUT, "erase(1, 0, 2)", STATE, "erase(0, 0, 2)")
                .refusedFirst(OUT, "erase(0, 1, 2)", STATE, "erase(0, 0, 2)");
        doc.used(FULL_CELL + "|b").refusedFirst(OUT, "erase(0, 0, 17)", STATE, "erase(0, 0, 16)");
        doc.used("|||||||/|").refusedFirst(OUT, "erase(0, 7, 1)", STATE, "erase(0, 7, 0)");
    }

    private static void eraseJoins() {
        doc.sentence("if this is the end of the text, or the joined cell would have more than 16 signs");
        doc.fresh().refused(STATE, "erase(0, 0, 0)");
        doc.used("a|b/c|d").due((int) 'd', "erase(1, 1, 0)").refused(STATE, "erase(1, 1, 0)");
        doc.used("a|b/c|d").refused(STATE, "erase(1, 1, 1)").due(10, "erase(0, 1, 1)");
        // The joined cell: 16 signs, then 17, behind a tab and behind a line end.
        String ten = Check.times("c", 10);
        doc.on(ten + "|dddddd|e").due(9, "erase(0, 0, 10)").due(16, "cell(0, 0, 0)").written(ten + "dddddd|e");
        doc.used(ten + "|ddddddd|e").refused(STATE, "erase(0, 0, 10)");
        doc.on("q|" + ten + "/dddddd|e").due(10, "erase(0, 1, 10)").due(16, "cell(0, 1, 0)")
                .written("q|" + ten + "dddddd|e");
        doc.used("q|" + ten + "/ddddddd|e").refused(STATE, "erase(0, 1, 10)");
        doc.on(FULL_CELL + "||b").due(9, "erase(0, 0, 16)");
        doc.on("|" + FULL_CELL).due(9, "erase(0, 0, 0)");
        doc.on(FULL_CELL + "//b").due(10, "erase(0, 0, 16)");
        // The joined line: 8 cells, then 9.
        doc.on("a|b|c|d/e|f|g|h|i").due(10, "erase(0, 3, 1)").due(8, "line(0, 0)").written("a|b|c|de|f|g|h|i");
        doc.used("a|b|c|d/e|f|g|h|i|j").refused(STATE, "erase(0, 3, 1)");
        doc.on("|||||||/").due(10, "erase(0, 7, 0)").written("|||||||");
        doc.on("/|||||||").due(10, "erase(0, 0, 0)").written("|||||||");
        doc.used("|||||||/|").refused(STATE, "erase(0, 7, 0)");
        doc.used("|/|||||||").refused(STATE, "erase(0, 1, 0)");
        // A sign is erased wherever the cells or lines are full.
        doc.on("||||||" + FULL_CELL + "|/|").due((int) 'a', "erase(0, 6, 15)");
    }

    private static void setCell() {
        doc.sentence("Replaces the signs of a cell by the buffer, and clears the buffer.");
        doc.on("abc|d/e").input("12.5 (%)").then("setCell(0, 0)").written("12.5 (%)|d/e").due(0, "clearInput()");
        doc.on("abc|d/e").then("setCell(0, 0)").written("|d/e");
        doc.on("abc|d/e").input("zz").then("setCell(1, 0)").written("abc|d/zz");
        doc.sentence("- `line`: number of the line");
        doc.on("a/b/c").input("x").due(1, "setCell(0, 0)").input("yy").due(1, "setCell(2, 0)").written("x/b/yy");
        doc.used("a/b/c").input("x").refused(OUT, "setCell(-1, 0)", "setCell(3, 0)", "setCell(MAX, 0)", "setCell(MIN, 0)");
        doc.sentence("- `cell`: number of the cell");
        doc.on("a|b|c/d").input("x").due(1, "setCell(0, 0)").input("yy").due(1, "setCell(0, 2)").written("x|b|yy/d");
        doc.used("a|b|c/d").input("x").refused(OUT, "setCell(0, -1)", "setCell(0, 3)", "setCell(1, 1)", "setCell(0, MAX)",
                "setCell(0, MIN)");
        doc.sentence("Returns the previous length of the cell.");
        doc.fresh().input("abc").due(0, "setCell(0, 0)").due(3, "setCell(0, 0)").due(0, "setCell(0, 0)");
        doc.on(FULL_CELL).input("abc").due(16, "setCell(0, 0)").due(3, "cell(0, 0, 0)");

        doc.sentence("if the line or the cell does not exist");
        doc.used("ab|c/d").refused(OUT, "setCell(2, 0)", "setCell(0, 2)", "setCell(1, 1)", "setCell(-1, 0)",
                "setCell(0, -1)");
        doc.used("ab").input("!").refusedFirst(OUT, "setCell(1, 0)", STATE, "setCell(0, 0)")
                .refusedFirst(OUT, "setCell(0, 1)", STATE, "setCell(0, 0)");
        doc.sentence("if the buffer is not a cell");
        doc.on("ab|c").input(FULL_CELL).due(2, "setCell(0, 0)").due(16, "cell(0, 0, 0)");
        doc.used("ab|c").input(FULL_CELL + "x").refused(STATE, "setCell(0, 0)", "setCell(0, 1)").due(17, "clearInput()");
        for (String buffer : new String[] {"|", "/", "a|b", "a/b", "!", "a~", "_"}) {
            doc.used("ab|c").input(buffer).refused(STATE, "setCell(0, 0)");
        }
        doc.used("ab|c").input(Check.times("z", 120)).refused(STATE, "setCell(0, 0)");
    }
}
