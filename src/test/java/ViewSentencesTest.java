import java.io.IOException;

/** The sentences of promises 18 to 26: alignment and spacing, and what there is. */
final class ViewSentencesTest {
    private static final String OUT = Document.OUT;
    private static final String ARGUMENT = Document.ARGUMENT;
    private static final String STATE = Document.STATE;
    private static final String FULL_CELL = Check.times("a", 16);
    private static final String FULL_TEXT = Check.times("/", 23);
    private static Document doc;

    public static void main(String[] args) throws IOException {
        doc = new Document();
        doc.section("Promise 18: setAlignment");
        setAlignment();
        doc.section("Promise 19: setSpacing");
        setSpacing();
        doc.section("Promise 20: count");
        count();
        doc.section("Promise 21: line");
        line();
        doc.section("Promise 22: cell");
        cell();
        doc.section("Promise 23: letter");
        letter();
        doc.section("Promise 24: shown");
        shown();
        doc.section("Promise 25: hit");
        hit();
        doc.section("Promise 26: find");
        find();
        doc.end("ViewSentencesTest");
    }

    private static void setAlignment() {
        doc.sentence("Sets the alignment of a column.");
        doc.on("a|b|/cc|dd|").then("setAlignment(0, 1)").due(1, "block(0, 4)").due(0, "block(1, 4)").due(1, "cell(0, 0, 3)")
                .due(0, "cell(0, 1, 3)");
        doc.sentence("- `column`: 0 to 6");
        doc.on("|||||||").then("setAlignment(0, 1); setAlignment(6, 2)").due(1, "block(0, 4)").due(0, "block(1, 4)")
                .due(0, "block(5, 4)").due(2, "block(6, 4)");
        doc.sentence("- `alignment`: 0 to 3");
        doc.on("1|").then("setAlignment(0, 0)").due(0, "block(0, 4)").then("setAlignment(0, 1)").due(1, "block(0, 4)")
                .then("setAlignment(0, 2)").due(2, "block(0, 4)").then("setAlignment(0, 3)").due(3, "block(0, 4)");
        doc.sentence("Returns the previous alignment.");
        doc.fresh().due(3, "setAlignment(6, 0)").due(0, "setAlignment(6, 1)").due(1, "setAlignment(6, 2)")
                .due(2, "setAlignment(6, 3)").due(3, "setAlignment(6, 3)").due(3, "setAlignment(0, 3)");
        doc.sentence("if column or alignment is out of range");
        doc.used("1|b").refused(ARGUMENT, "setAlignment(-1, 0)", "setAlignment(7, 0)", "setAlignment(MAX, 0)",
                "setAlignment(MIN, 0)", "setAlignment(0, -1)", "setAlignment(0, 4)", "setAlignment(0, MAX)",
                "setAlignment(0, MIN)", "setAlignment(6, 4)", "setAlignment(6, -1)", "setAlignment(7, 4)")
                .due(3, "setAlignment(0, 3)").due(2, "setAlignment(6, 0)");
    }

    private static void setSpacing() {
        doc.sentence("Sets a part of the spacing.");
        doc.on("abc|").then("setSpacing(0, 3)").due(6, "block(0, 3)").then("setSpacing(1, 5)").due(8, "block(0, 3)")
                .then("setSpacing(2, 7)").due(14, "block(0, 3)");
        doc.sentence("0 for the padding, 1 for the least width, 2 for the grid");
        doc.on("abc|").then("setSpacing(0, 4)").due(7, "block(0, 3)");
        doc.on("abc|").then("setSpacing(1, 4)").due(6, "block(0, 3)");
        doc.on("abc|").then("setSpacing(2, 4)").due(8, "block(0, 3)");
        doc.sentence("- `value`: the new value");
        doc.on("abc|").then("setSpacing(0, 0)").due(3, "block(0, 3)").then("setSpacing(0, 8)").due(11, "block(0, 3)");
        doc.on("abc|").then("setSpacing(1, 20)").due(22, "block(0, 3)").then("setSpacing(1, 0)").due(5, "block(0, 3)");
        doc.on("abc|").then("setSpacing(2, 8)").due(8, "block(0, 3)").then("setSpacing(2, 1)").due(5, "block(0, 3)");
        doc.sentence("Returns the previous value.");
        doc.fresh().due(2, "setSpacing(0, 8)").due(8, "setSpacing(0, 0)").due(0, "setSpacing(0, 1)");
        doc.fresh().due(0, "setSpacing(1, 20)").due(20, "setSpacing(1, 0)").due(0, "setSpacing(1, 1)");
        doc.fresh().due(1, "setSpacing(2, 8)").due(8, "setSpacing(2, 1)").due(1, "setSpacing(2, 2)");

        doc.sentence("if what is not 0 to 2, or value is out of its range");
        doc.used("a|b").refused(ARGUMENT, "setSpacing(-1, 1)", "setSpacing(3, 1)", "setSpacing(MAX, 1)",
                "setSpacing(MIN, 1)", "setSpacing(3, 9)");
        doc.used("a|b").refused(ARGUMENT, "setSpacing(0, -1)", "setSpacing(0, 9)", "setSpacing(0, MAX)",
                "setSpacing(0, MIN)").due(2, "setSpacing(0, 8)").due(8, "setSpacing(0, 0)");
        // 9 to 20 is out of the padding's range, but not out of the least width's.
        doc.used("a|b").refused(ARGUMENT, "setSpacing(1, -1)", "setSpacing(1, 21)", "setSpacing(1, MAX)",
                "setSpacing(1, MIN)").due(0, "setSpacing(1, 9)").due(9, "setSpacing(1, 20)");
        doc.used("a|b").refused(ARGUMENT, "setSpacing(2, 0)", "setSpacing(2, 9)", "setSpacing(2, -1)",
                "setSpacing(2, MAX)", "setSpacing(2, MIN)").due(1, "setSpacing(2, 8)").due(8, "setSpacing(2, 1)");
    }

    private static void counts(Tried tried, int... wants) {
        for (int what = 0; what < wants.length; what++) {
            tried.due(wants[what], "count(" + what + ")");
        }
    }

    private static void count() {
        doc.sentence("`: Returns a number.");
        counts(doc.fresh(), 1, 1, 0, 0, 0, 1, 0, 0, 0);
        doc.sentence("0 for the number of lines, 1 for the number of cells");
        counts(doc.on("a|1.5| /bb||-2/ccc").then("type(2, 0, 3, 'd'); undo()"), 3, 7, 12, 2, 2, 2, 11, 1, 1);
        counts(doc.on("||||||| /2"), 2, 9, 2, 7, 1, 8, 15, 1, 0);
        counts(doc.on(FULL_TEXT), 24, 24, 0, 0, 0, 24, 0, 1, 0);
        // Not the first line but a middle one is the longest.
        doc.on("a/bbbb/cc").due(4, "count(6)");
        Tried most = doc.on(Check.times("||||/", 23) + "||||").then("insertColumn(0); insertColumn(0); insertColumn(0)");
        counts(most, 24, 192, 0, 7, 0, 192, 14, 4, 0);
        most.then("setSpacing(0, 8); setSpacing(1, 20); setSpacing(2, 8)").due(224, "count(6)");
        doc.sentence("Returns the number.");
        Tried kept = doc.fresh();
        for (int i = 0; i < 11; i++) {
            kept.then("moveLine(0, 0)");
        }
        kept.due(10, "count(7)").due(0, "count(8)").then("undo(); undo()").due(8, "count(7)").due(2, "count(8)");
        doc.sentence("if what is not 0 to 8");
        doc.used("a|b").due(1, "count(0)").due(1, "count(8)")
                .refused(ARGUMENT, "count(-1)", "count(9)", "count(MAX)", "count(MIN)");
    }

    private static void line() {
        doc.sentence("Returns a property of a line.");
        doc.on("ab|c/d").due(2, "line(0, 0)").due(5, "line(0, 1)").due(3, "line(0, 2)").due(9, "line(0, 3)");
        doc.sentence("- `line`: number of the line");
        doc.on("ab|c/d/e|f|g").due(2, "line(0, 0)").due(1, "line(1, 0)").due(3, "line(2, 0)");
        doc.on(FULL_TEXT + "|").due(2, "line(23, 0)");

        doc.sentence("0 for the number of its cells, 1 for its shown length");
        doc.fresh().due(1, "line(0, 0)").due(0, "line(0, 1)").due(0, "line(0, 2)").due(0, "line(0, 3)");
        doc.on("|||||||").due(8, "line(0, 0)").due(14, "line(0, 1)").due(0, "line(0, 2)").due(56, "line(0, 3)");
        doc.on(FULL_CELL + "|" + FULL_CELL).due(34, "line(0, 1)").due(32, "line(0, 2)");
        // Fixed tab stops: at 7 a tab goes on to 8, at 8 to 16, at 15 to 16, at 16 to 24.
        doc.on("|").due(8, "line(0, 3)");
        doc.on("a|").due(8, "line(0, 3)");
        doc.on("1234567|").due(8, "line(0, 3)");
        doc.on("12345678|").due(16, "line(0, 3)");
        doc.on("123456789|").due(16, "line(0, 3)");
        doc.on(FULL_CELL.substring(1) + "|").due(16, "line(0, 3)");
        doc.on(FULL_CELL + "|").due(24, "line(0, 3)");
        doc.on("1|1234567|z").due(17, "line(0, 3)");
        doc.on("1|12345678|z").due(25, "line(0, 3)");
        doc.on("12345678").due(8, "line(0, 3)");

        doc.sentence("Returns the property.");
        doc.on("ab|c").then("setSpacing(0, 8)").due(11, "line(0, 1)").due(9, "line(0, 3)");
        doc.sentence("if the line does not exist");
        doc.used("a/b").due(1, "line(1, 0)").refused(OUT, "line(-1, 0)", "line(2, 0)", "line(MAX, 0)", "line(MIN, 0)")
                .refusedFirst(OUT, "line(2, 4)", ARGUMENT, "line(1, 4)")
                .refusedFirst(OUT, "line(-1, -1)", ARGUMENT, "line(0, -1)");
        doc.sentence("if what is not 0 to 3");
        doc.used("a/b").due(1, "line(0, 0)").due(1, "line(0, 3)")
                .refused(ARGUMENT, "line(0, -1)", "line(0, 4)", "line(0, MAX)", "line(0, MIN)");
    }

    private static void cell() {
        doc.sentence("Returns a property of a cell.");
        doc.on("a|22|x/bbb|5|/c").due(1, "cell(1, 1, 0)").due(1, "cell(1, 1, 1)").due(5, "cell(1, 1, 2)")
                .due(1, "cell(1, 1, 3)").due(1, "cell(1, 1, 4)");
        doc.sentence("- `line`: number of the line");
        doc.on("a/bb/ccc").due(1, "cell(0, 0, 0)").due(3, "cell(2, 0, 0)");
        doc.on(FULL_TEXT + "ab").due(2, "cell(23, 0, 0)");
        doc.sentence("- `cell`: number of the cell");
        doc.on("a|bb|ccc").due(1, "cell(0, 0, 0)").due(3, "cell(0, 2, 0)");
        doc.on("|||||||ab").due(2, "cell(0, 7, 0)");

        doc.sentence("0 for its length, 1 for its kind");
        doc.fresh().due(0, "cell(0, 0, 0)").due(0, "cell(0, 0, 1)").due(0, "cell(0, 0, 2)").due(0, "cell(0, 0, 3)")
                .due(-1, "cell(0, 0, 4)");
        doc.on(FULL_CELL).due(16, "cell(0, 0, 0)").due(2, "cell(0, 0, 1)");
        doc.on("1| |x").due(1, "cell(0, 0, 1)").due(0, "cell(0, 1, 1)").due(2, "cell(0, 2, 1)").due(0, "cell(0, 0, 4)")
                .due(1, "cell(0, 1, 4)").due(TabText.NONE, "cell(0, 2, 4)");
        doc.sentence("Returns the property.");
        doc.on("a|b").then("setSpacing(1, 20); setAlignment(0, 1)").due(19, "cell(0, 0, 3)").due(22, "cell(0, 1, 2)");

        doc.sentence("if the line or the cell does not exist");
        doc.used("a|b/c").due(1, "cell(0, 1, 0)").due(1, "cell(1, 0, 0)")
                .refused(OUT, "cell(-1, 0, 0)", "cell(2, 0, 0)", "cell(0, -1, 0)", "cell(0, 2, 0)", "cell(1, 1, 0)",
                        "cell(MAX, 0, 0)", "cell(0, MAX, 0)", "cell(MIN, 0, 0)", "cell(0, MIN, 0)")
                .refusedFirst(OUT, "cell(2, 0, 5)", ARGUMENT, "cell(1, 0, 5)")
                .refusedFirst(OUT, "cell(0, 2, -1)", ARGUMENT, "cell(0, 1, -1)");
        doc.used("|||||||/").refused(OUT, "cell(0, 8, 0)", "cell(1, 1, 0)");
        doc.sentence("if what is not 0 to 4");
        doc.used("a|b").due(1, "cell(0, 0, 0)").due(0, "cell(0, 0, 4)")
                .refused(ARGUMENT, "cell(0, 0, -1)", "cell(0, 0, 5)", "cell(0, 0, MAX)", "cell(0, 0, MIN)");
    }

    private static void letter() {
        doc.sentence("Returns a sign of a cell.");
        doc.on("ab|cd/ef").due((int) 'd', "letter(0, 1, 1)");
        doc.sentence("- `line`: number of the line");
        doc.on("a/b/c").due((int) 'a', "letter(0, 0, 0)").due((int) 'c', "letter(2, 0, 0)");
        doc.sentence("- `cell`: number of the cell");
        doc.on("a|b|c").due((int) 'a', "letter(0, 0, 0)").due((int) 'c', "letter(0, 2, 0)");
        doc.sentence("the offset before the sign");
        doc.on("abcdefghijklmnop").due((int) 'a', "letter(0, 0, 0)").due((int) 'p', "letter(0, 0, 15)");
        doc.sentence("Returns its code.");
        doc.on("zZ9 )").due(122, "letter(0, 0, 0)").due(90, "letter(0, 0, 1)").due(57, "letter(0, 0, 2)")
                .due(32, "letter(0, 0, 3)").due(41, "letter(0, 0, 4)");
        doc.sentence("if the line or the cell does not exist, or there is no sign behind this offset");
        doc.used("ab|c/d").due((int) 'b', "letter(0, 0, 1)").refused(OUT, "letter(-1, 0, 0)", "letter(2, 0, 0)",
                "letter(0, -1, 0)", "letter(0, 2, 0)", "letter(1, 1, 0)", "letter(0, 0, -1)", "letter(0, 0, 2)",
                "letter(0, 1, 1)", "letter(1, 0, 1)", "letter(MAX, 0, 0)", "letter(0, MAX, 0)", "letter(0, 0, MAX)",
                "letter(MIN, 0, 0)", "letter(0, MIN, 0)", "letter(0, 0, MIN)");
        doc.used(FULL_CELL).refused(OUT, "letter(0, 0, 16)");
        doc.used("|").refused(OUT, "letter(0, 0, 0)", "letter(0, 1, 0)");
    }

    private static void shown() {
        doc.sentence("Returns a character of a line as it is shown.");
        doc.on("ab|c").shownAs("ab  c").due((int) 'b', "shown(0, 1)").due(32, "shown(0, 2)").due((int) 'c', "shown(0, 4)");
        doc.sentence("- `line`: number of the line");
        doc.on("a/b/c").due((int) 'a', "shown(0, 0)").due((int) 'c', "shown(2, 0)");
        doc.sentence("- `column`: the column, 0 or more");
        doc.on("ab").due((int) 'a', "shown(0, 0)").due((int) 'b', "shown(0, 1)").due(32, "shown(0, 2)");
        doc.sentence("Returns its code, 32 where nothing is shown.");
        doc.fresh().allDue(32, "shown(0, 0)", "shown(0, 1)", "shown(0, MAX)");
        doc.on("ab|c/dddd|").then("setAlignment(0, 1)").shownAs("  ab  c", "dddd  ").due(32, "shown(0, 1)")
                .due((int) 'a', "shown(0, 2)").due(32, "shown(0, 4)").due(32, "shown(0, 5)").due(32, "shown(0, 7)");
        doc.on("||a|b").then("setSpacing(0, 0)").due((int) 'a', "shown(0, 0)").due((int) 'b', "shown(0, 1)")
                .due(32, "shown(0, 2)");
        doc.on("a b").due(32, "shown(0, 1)");
        doc.sentence("if the line does not exist, or column is less than 0");
        doc.used("a/b").due((int) 'b', "shown(1, 0)").refused(OUT, "shown(-1, 0)", "shown(2, 0)", "shown(MAX, 0)",
                "shown(MIN, 0)", "shown(0, -1)", "shown(0, MIN)", "shown(2, -1)");
    }

    private static void hit() {
        doc.sentence("Returns the cell at a column of a shown line.");
        doc.on("ab|c|d").due(0, "hit(0, 0)").due(1, "hit(0, 5)").due(2, "hit(0, 9)");
        doc.sentence("- `line`: number of the line");
        doc.on("a|b/c/d").due(1, "hit(0, 3)").due(0, "hit(2, 3)");
        doc.sentence("- `column`: the column, 0 or more");
        doc.on("a|b").due(0, "hit(0, 0)").due(1, "hit(0, MAX)");
        doc.fresh().allDue(0, "hit(0, 0)", "hit(0, MAX)");
        doc.sentence("Returns the last cell of the line whose x is at most column.");
        doc.on("ab|c|d").due(0, "hit(0, 3)").due(1, "hit(0, 4)").due(1, "hit(0, 6)").due(2, "hit(0, 7)");
        // Cells without a width have the same x; the last one of them is hit.
        doc.on("|||a|b").then("setSpacing(0, 0)").due(3, "hit(0, 0)").due(4, "hit(0, 1)");
        doc.on("|||||||").then("setSpacing(0, 8); setSpacing(1, 20); setSpacing(2, 8)").due(0, "hit(0, 31)")
                .due(1, "hit(0, 32)").due(6, "hit(0, 223)").due(7, "hit(0, 224)");
        // The shift of a cell does not matter.
        doc.on("a|b/cccc|d").then("setAlignment(0, 1)").due(0, "hit(0, 0)").due(0, "hit(0, 5)").due(1, "hit(0, 6)");
        doc.sentence("if the line does not exist, or column is less than 0");
        doc.used("a/b").due(0, "hit(1, 0)").refused(OUT, "hit(-1, 0)", "hit(2, 0)", "hit(MAX, 0)", "hit(MIN, 0)",
                "hit(0, -1)", "hit(0, MIN)", "hit(2, -1)");
    }

    private static void find() {
        doc.sentence("Finds the next cell whose signs are equal to the buffer, line by line.");
        doc.on("a|b|a/b|a/ab||a").input("a").due(2, "find(0, 0)").due(101, "find(0, 2)").due(202, "find(1, 1)")
                .due(1, "clearInput()");
        // Equal signs: as many, and the same ones.
        doc.on("x|A| a|a |aa|b|a").input("a").due(6, "find(0, 0)");
        doc.on("x|1|1.0|01|1").input("01").due(3, "find(0, 0)");
        doc.on("x|ab| |").due(3, "find(0, 0)");
        doc.on("x|ab||").then("append(32)").due(-1, "find(0, 0)");
        doc.on("x|" + FULL_CELL.substring(1) + "b|" + FULL_CELL).input(FULL_CELL).due(2, "find(0, 0)");
        doc.sentence("- `line`: number of the line");
        doc.on("q/a/a").input("a").due(100, "find(0, 0)").due(200, "find(1, 0)").due(-1, "find(2, 0)");
        doc.sentence("number of the cell behind which the search begins");
        doc.on("a|a|a").input("a").due(1, "find(0, 0)").due(2, "find(0, 1)").due(-1, "find(0, 2)");
        doc.on("a|q/a").input("a").due(100, "find(0, 0)").due(100, "find(0, 1)");

        doc.sentence("NONE if there is no such cell behind the given one");
        doc.fresh().due(TabText.NONE, "find(0, 0)");
        doc.on("a|b").input("a").due(TabText.NONE, "find(0, 0)").due(TabText.NONE, "find(0, 1)");
        doc.on(FULL_TEXT + "|||||||z").input("z").due(2307, "find(0, 0)").due(2307, "find(23, 6)").due(-1, "find(23, 7)");
        doc.sentence("if the line or the cell does not exist");
        doc.used("a|b/c").input("c").due(100, "find(0, 1)").refused(OUT, "find(-1, 0)", "find(2, 0)", "find(0, -1)",
                "find(0, 2)", "find(1, 1)", "find(MAX, 0)", "find(0, MAX)", "find(MIN, 0)", "find(0, MIN)");
        doc.used("a|b").input("a|b").refusedFirst(OUT, "find(1, 0)", STATE, "find(0, 0)")
                .refusedFirst(OUT, "find(0, 2)", STATE, "find(0, 1)")
                .refusedFirst(OUT, "find(0, -1)", STATE, "find(0, 0)");
        doc.sentence("if the buffer is not a cell");
        doc.on("a|b").input(FULL_CELL).due(-1, "find(0, 0)");
        doc.used("a|b").input(FULL_CELL + "a").refused(STATE, "find(0, 0)", "find(0, 1)");
        for (String buffer : new String[] {"|", "/", "a|b", "!", "a~"}) {
            doc.used("a|b").input(buffer).refused(STATE, "find(0, 0)");
        }
    }
}
