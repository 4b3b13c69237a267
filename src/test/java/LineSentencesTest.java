import java.io.IOException;

/** The sentences of promises 9 to 17: whole lines, columns, retab, undo and redo. */
final class LineSentencesTest {
    private static final String OUT = Document.OUT;
    private static final String ARGUMENT = Document.ARGUMENT;
    private static final String STATE = Document.STATE;
    private static final String FULL_CELL = Check.times("a", 16);
    private static final String FULL_TEXT = Check.times("/", 23);
    private static Document doc;

    public static void main(String[] args) throws IOException {
        doc = new Document();
        doc.section("Promise 9: insertLine");
        insertLine();
        doc.section("Promise 10: removeLine");
        removeLine();
        doc.section("Promise 11: moveLine");
        moveLine();
        doc.section("Promise 12: sort");
        sortSequence();
        sortArguments();
        doc.section("Promise 13: insertColumn");
        insertColumn();
        doc.section("Promise 14: removeColumn");
        removeColumn();
        doc.section("Promise 15: retab");
        retabRuns();
        retabArguments();
        doc.section("Promise 16: undo");
        undo();
        doc.section("Promise 17: redo");
        redo();
        doc.end("LineSentencesTest");
    }

    private static void insertLine() {
        doc.sentence("Inserts the line in the buffer, and clears the buffer.");
        doc.on("a/b").input("0|1").then("insertLine(1)").written("a/0|1/b").due(0, "clearInput()");
        doc.on("a/b").then("insertLine(1)").written("a//b").due(1, "line(1, 0)");
        doc.sentence("the number that the new line will have, 0 to the number of lines");
        doc.on("a/b").input("x|").due(3, "insertLine(0)").written("x|/a/b");
        doc.on("a/b").input("x|").due(3, "insertLine(2)").written("a/b/x|");
        doc.on("a/b").due(3, "insertLine(2)").written("a/b/");
        doc.fresh().input("x").due(2, "insertLine(1)").written("/x");
        doc.fresh().input("x").due(2, "insertLine(0)").written("x/");
        doc.sentence("Returns the new number of lines.");
        doc.on(FULL_TEXT.substring(2)).due(23, "insertLine(0)").due(24, "insertLine(23)").due(24, "count(0)");

        doc.sentence("if line is out of range");
        doc.used("a/b").input("x").refused(OUT, "insertLine(-1)", "insertLine(3)", "insertLine(MAX)", "insertLine(MIN)")
                .due(3, "insertLine(2)");
        doc.used("a/b").input("!").refusedFirst(OUT, "insertLine(3)", STATE, "insertLine(2)")
                .refusedFirst(OUT, "insertLine(-1)", STATE, "insertLine(0)");
        doc.used(FULL_TEXT).refusedFirst(OUT, "insertLine(25)", STATE, "insertLine(24)")
                .refusedFirst(OUT, "insertLine(-1)", STATE, "insertLine(0)");

        doc.sentence("if the buffer is not a line, or there are 24 lines");
        doc.on("q").input("|||||||").due(2, "insertLine(0)").due(8, "line(0, 0)");
        doc.used("q").input("||||||||").refused(STATE, "insertLine(0)", "insertLine(1)").due(8, "clearInput()");
        doc.on("q").input("|" + FULL_CELL).due(2, "insertLine(0)").due(16, "cell(0, 1, 0)");
        doc.used("q").input("|" + FULL_CELL + "b").refused(STATE, "insertLine(0)");
        for (String buffer : new String[] {"/", "a/b", "a|!", "~"}) {
            doc.used("q").input(buffer).refused(STATE, "insertLine(0)");
        }
        doc.used(FULL_TEXT).input("a|b").refused(STATE, "insertLine(0)", "insertLine(12)", "insertLine(24)")
                .due(3, "clearInput()");
        doc.used(FULL_TEXT).input("!").refused(STATE, "insertLine(0)");
    }

    private static void removeLine() {
        doc.sentence("Removes a line.");
        doc.on("a|b/c/d|e/f").then("removeLine(1)").written("a|b/d|e/f");
        doc.sentence("- `line`: number of the line");
        doc.on("a|b/c/d|e").due(2, "removeLine(0)").written("c/d|e");
        doc.on("a|b/c/d|e").due(2, "removeLine(2)").written("a|b/c");
        doc.on("/").due(1, "removeLine(1)").written("");
        doc.on(FULL_TEXT + "z").due(23, "removeLine(23)").written(FULL_TEXT.substring(1));
        doc.sentence("Returns the new number of lines.");
        doc.on("//").due(2, "removeLine(0)").due(1, "removeLine(0)").due(1, "count(0)");

        doc.sentence("if the line does not exist");
        doc.used("a/b").refused(OUT, "removeLine(-1)", "removeLine(2)", "removeLine(MAX)", "removeLine(MIN)")
                .due(1, "removeLine(1)");
        doc.used("a").refusedFirst(OUT, "removeLine(1)", STATE, "removeLine(0)")
                .refusedFirst(OUT, "removeLine(-1)", STATE, "removeLine(0)");
        doc.sentence("if there is only one line");
        doc.used("a/b").due(1, "removeLine(0)").refused(STATE, "removeLine(0)").written("b");
        doc.fresh().refused(STATE, "removeLine(0)");
    }

    private static void moveLine() {
        doc.sentence("Moves a line to another place.");
        doc.on("a/b/c/d").then("moveLine(0, 2)").written("b/c/a/d");
        doc.on("a/b/c/d").then("moveLine(3, 1)").written("a/d/b/c");
        doc.on("a/b/c/d").then("moveLine(1, 1)").written("a/b/c/d");
        doc.fresh().then("moveLine(0, 0)").written("");
        doc.sentence("- `from`: number of the line");
        doc.on("a/b/c").then("moveLine(0, 1)").written("b/a/c");
        doc.on("a/b/c").then("moveLine(2, 1)").written("a/c/b");
        doc.used("a/b/c").refused(OUT, "moveLine(-1, 0)", "moveLine(3, 0)");
        doc.sentence("- `to`: the number that it will have");
        doc.on("a/b/c").then("moveLine(1, 0)").written("b/a/c");
        doc.on("a/b/c").then("moveLine(1, 2)").written("a/c/b");
        doc.on("a/b/c").then("moveLine(0, 2)").written("b/c/a");
        doc.on("a/b/c").then("moveLine(2, 0)").written("c/a/b");
        // 3 is where a line can be inserted, but no line has this number.
        doc.used("a/b/c").refused(OUT, "moveLine(0, -1)", "moveLine(0, 3)");
        doc.sentence("Returns the number of blocks afterwards.");
        doc.on("a|/b/c|").due(1, "moveLine(0, 1)").due(2, "moveLine(1, 0)").due(2, "moveLine(1, 1)");
        doc.on("a/b").due(0, "moveLine(0, 1)");
        doc.on(Check.times("|||||||//", 11) + "|||||||/").due(84, "moveLine(23, 23)").due(84, "moveLine(23, 0)");

        doc.sentence("if from or to is not the number of a line");
        doc.used("a/b").refused(OUT, "moveLine(-1, 0)", "moveLine(2, 0)", "moveLine(0, -1)", "moveLine(0, 2)",
                "moveLine(2, 2)", "moveLine(-1, -1)", "moveLine(MAX, 0)", "moveLine(0, MAX)", "moveLine(MIN, 0)",
                "moveLine(0, MIN)");
        doc.used("a").refused(OUT, "moveLine(0, 1)", "moveLine(1, 0)");
        doc.used(FULL_TEXT).refused(OUT, "moveLine(24, 0)", "moveLine(0, 24)").due(0, "moveLine(0, 23)");
    }

    private static void sorted(String before, int skip, boolean descending, int moved, String after) {
        doc.on(before).due(moved, "sort(0, " + skip + ", " + descending + ")").written(after);
    }

    private static void sortSequence() {
        doc.sentence("Sorts lines of a block, with all their cells, by their cells in this block.");
        doc.on("b|1|x/a|2/c|3|y/d").due(2, "sort(0, 0, false)").written("a|2/b|1|x/c|3|y/d");
        doc.on("a|2|x/b|1|y/c|").due(2, "sort(1, 0, false)").written("b|1|y/a|2|x/c|");
        doc.on("2|/1|/q/2|x/1|y/q/0|").due(2, "sort(1, 0, false)").written("2|/1|/q/1|y/2|x/q/0|");

        doc.sentence("Numbers come first, by their values, then word cells");
        sorted("|/a|/1|", 0, false, 2, "1|/a|/|");
        sorted("a|/|/1|", 0, false, 3, "1|/a|/|");
        sorted("10|/9|/-1|/-2|", 0, false, 4, "-2|/-1|/9|/10|");
        sorted("0.0002|/0.0001|/0|/-0.0001|", 0, false, 4, "-0.0001|/0|/0.0001|/0.0002|");
        sorted("999999999.9999|/999999999.9998|/-999999999.9999|", 0, false, 2,
                "-999999999.9999|/999999999.9998|/999999999.9999|");
        // By character codes: "(" 40, "Z" 90, "a" 97; and ten digits are no number.
        sorted("a|/Z|/(|", 0, false, 2, "(|/Z|/a|");
        sorted("b|/1234567890|/5|", 0, false, 2, "5|/1234567890|/b|");
        sorted("1.|/.5|/-|", 0, false, 2, "-|/.5|/1.|");
        // A cell that is the beginning of another one comes before it.
        sorted("abc|/ab|/a|", 0, false, 2, "a|/ab|/abc|");
        sorted("a |/a|", 0, false, 2, "a|/a |");
        sorted(FULL_CELL + "|/" + FULL_CELL.substring(1) + "|", 0, false, 2,
                FULL_CELL.substring(1) + "|/" + FULL_CELL + "|");
        sorted("aab|/aaa|/aa|", 0, false, 2, "aa|/aaa|/aab|");

        doc.sentence("Lines with equal values, equal word cells, or blank cells keep their sequence.");
        sorted("1|a/1.0|b/01|c/1.00|d", 0, false, 0, "1|a/1.0|b/01|c/1.00|d");
        sorted("1|a/1.0|b/01|c/1.00|d", 0, true, 0, "1|a/1.0|b/01|c/1.00|d");
        sorted("0|a/-0|b/0.0|c", 0, false, 0, "0|a/-0|b/0.0|c");
        sorted("-0|a/0|b/-0.0|c", 0, true, 0, "-0|a/0|b/-0.0|c");
        sorted("x|a/x|b/w|c", 0, false, 3, "w|c/x|a/x|b");
        sorted("w|c/x|a/x|b", 0, true, 3, "x|a/x|b/w|c");
        sorted("  |a/|b/ |c", 0, false, 0, "  |a/|b/ |c");
        sorted("  |a/|b/ |c", 0, true, 0, "  |a/|b/ |c");
    }

    private static void sortArguments() {
        doc.sentence("- `block`: number of the block");
        doc.on("b|d|/a|c|").due(2, "sort(0, 0, false)").written("a|c|/b|d|");
        doc.on("a|d|/b|c|").due(2, "sort(1, 0, false)").written("b|c|/a|d|");
        doc.on("b|/a|").due(2, "sort(0, 0, false)");

        doc.sentence("how many lines at the beginning of the block are not sorted, 0 to their number");
        sorted("z|/c|/b|/a|", 0, false, 4, "a|/b|/c|/z|");
        sorted("z|/c|/b|/a|", 1, false, 2, "z|/a|/b|/c|");
        sorted("z|/c|/b|/a|", 2, false, 2, "z|/c|/a|/b|");
        sorted("z|/c|/b|/a|", 3, false, 0, "z|/c|/b|/a|");
        sorted("z|/c|/b|/a|", 4, false, 0, "z|/c|/b|/a|");
        // The block begins in line 1.
        sorted("q/c|/b|/a|", 1, false, 2, "q/c|/a|/b|");
        sorted("q/c|/b|/a|", 3, false, 0, "q/c|/b|/a|");

        doc.sentence("true if greater numbers and greater word cells are to come first among their kind");
        sorted("a|/1|/|/b|/2|/ |", 0, false, 4, "1|/2|/a|/b|/|/ |");
        sorted("a|/1|/|/b|/2|/ |", 0, true, 4, "2|/1|/b|/a|/|/ |");
        sorted("a|/ab|/abc|", 0, true, 2, "abc|/ab|/a|");

        doc.sentence("Returns how many lines have another number than before.");
        sorted("a|", 0, false, 0, "a|");
        sorted("a|/b|", 0, false, 0, "a|/b|");
        sorted("b|/a|", 0, false, 2, "a|/b|");
        sorted("b|/c|/a|", 0, false, 3, "a|/b|/c|");
        // Equal lines that change their places have another number, too.
        sorted("b|/b|/a|", 0, false, 3, "a|/b|/b|");
        StringBuilder down = new StringBuilder();
        StringBuilder up = new StringBuilder();
        for (int i = 0; i < 24; i++) {
            down.append((char) ('x' - i)).append(i < 23 ? "|/" : "|");
            up.append((char) ('a' + i)).append(i < 23 ? "|/" : "|");
        }
        sorted(down.toString(), 0, false, 24, up.toString());

        doc.sentence("if the block does not exist");
        doc.used("b|/a|").refused(OUT, "sort(-1, 0, false)", "sort(1, 0, false)", "sort(MAX, 0, true)", "sort(MIN, 0, true)")
                .due(2, "sort(0, 0, false)");
        doc.used("a").refused(OUT, "sort(0, 0, false)");
        doc.used("b|/a|").refusedFirst(OUT, "sort(1, 3, false)", ARGUMENT, "sort(0, 3, false)")
                .refusedFirst(OUT, "sort(-1, -1, true)", ARGUMENT, "sort(0, -1, true)");
        doc.sentence("if skip is out of range");
        doc.used("b|/a|/q").refused(ARGUMENT, "sort(0, -1, false)", "sort(0, 3, false)", "sort(0, MAX, false)",
                "sort(0, MIN, true)").due(0, "sort(0, 2, false)").due(2, "sort(0, 0, false)");
        doc.used("q/a|").refused(ARGUMENT, "sort(0, 2, false)").due(0, "sort(0, 1, false)");
    }

    private static void insertColumn() {
        doc.sentence("Inserts an empty cell, ended by a tab, before the cell of a block in each of its lines.");
        doc.on("a|b|c/d|e/f/g|h").then("insertColumn(0)").written("|a|b|c/|d|e/f/g|h");
        doc.on("a|b|c/d|e/f/g|h").then("insertColumn(2)").written("a||b|c/d|e/f/g|h");
        doc.sentence("- `block`: number of the block");
        doc.on("a|b|c").then("insertColumn(0)").written("|a|b|c");
        doc.on("a|b|c").then("insertColumn(1)").written("a||b|c");
        doc.on("a|/b/c|").then("insertColumn(1)").written("a|/b/|c|");
        doc.sentence("Returns the number of these lines.");
        doc.on("a|").due(1, "insertColumn(0)");
        doc.on("a|/b|/c/d|").due(2, "insertColumn(0)");
        doc.on(Check.times("|/", 23) + "|").due(24, "insertColumn(0)").due(72, "count(1)");

        doc.sentence("if the block does not exist");
        doc.used("a|b").refused(OUT, "insertColumn(-1)", "insertColumn(1)", "insertColumn(MAX)", "insertColumn(MIN)")
                .due(1, "insertColumn(0)");
        doc.used("a").refused(OUT, "insertColumn(0)");
        doc.used("|||||||").refusedFirst(OUT, "insertColumn(7)", STATE, "insertColumn(6)")
                .refusedFirst(OUT, "insertColumn(-1)", STATE, "insertColumn(0)");
        doc.sentence("if one of these lines has 8 cells");
        doc.on("||||||").due(1, "insertColumn(5)").due(8, "line(0, 0)");
        doc.used("||||||").due(1, "insertColumn(5)").refused(STATE, "insertColumn(0)", "insertColumn(6)");
        // The first, a middle or the last one of the lines.
        doc.used("|||||||/a|/b|").refused(STATE, "insertColumn(0)");
        doc.used("a|/|||||||/b|").refused(STATE, "insertColumn(0)");
        doc.used("a|/b|/|||||||").refused(STATE, "insertColumn(0)");
        // A line of 8 cells that the block does not have is none of these lines.
        doc.on("a|b/c/|||||||").due(1, "insertColumn(0)").written("|a|b/c/|||||||");
        doc.on("|||||||/c/a|b").due(1, "insertColumn(1)").written("|||||||/c/|a|b");
    }

    private static void removeColumn() {
        doc.sentence("Removes the cells of a block with their tabs.");
        doc.on("a|b|c/  |e/f/g|h").then("removeColumn(0)").written("b|c/e/f/g|h");
        doc.on("a|b|c/  |e/f/g|h").then("removeColumn(2)").written("a|c/  |e/f/g|h");
        doc.on("|||||||").then("removeColumn(6)").written("||||||");
        doc.sentence("- `block`: number of the block");
        doc.on("a|b|c").then("removeColumn(0)").written("b|c");
        doc.on("a|b|c").then("removeColumn(1)").written("a|c");
        doc.sentence("Returns how many of these cells are not blank.");
        doc.on("|/ |/" + Check.times(" ", 16) + "|").due(0, "removeColumn(0)").written("//");
        doc.on("1|/a|/ |/|/-|").due(3, "removeColumn(0)").written("////");
        doc.on("a|x/b|y").due(2, "removeColumn(0)").written("x/y");
        doc.on("|x/|y").due(0, "removeColumn(0)").written("x/y");

        doc.sentence("if the block does not exist");
        doc.used("a|b").refused(OUT, "removeColumn(-1)", "removeColumn(1)", "removeColumn(MAX)", "removeColumn(MIN)")
                .due(1, "removeColumn(0)").refused(OUT, "removeColumn(0)");
        doc.used("|||||||").refused(OUT, "removeColumn(7)").due(0, "removeColumn(6)");
    }

    private static void retabbed(String before, int gap, int tabs, String after) {
        doc.on(before).due(tabs, "retab(0, " + gap + ")").written(after);
    }

    private static void retabRuns() {
        doc.sentence("each run of blanks that is as long as possible, and has at least a given length, by a tab");
        retabbed("a b  c   d", 1, 3, "a|b|c|d");
        retabbed("a b  c   d", 2, 2, "a b|c|d");
        retabbed("a b  c   d", 3, 1, "a b  c|d");
        retabbed("a b  c   d", 4, 0, "a b  c   d");
        // As long as possible: four blanks are one run, not two of two.
        retabbed("a    b", 2, 1, "a|b");
        // At the beginning and at the end of a cell.
        retabbed("  a  ", 2, 2, "|a|");
        retabbed(" ", 1, 1, "|");
        // In all cells of the line; a run does not go on in the next cell.
        retabbed("a  |  b/c  d", 2, 2, "a|||b/c  d");
        retabbed("a | b", 2, 0, "a | b");
        retabbed("", 1, 0, "");

        doc.sentence("- `line`: number of the line");
        doc.on("a b/c d/e f").due(1, "retab(0, 1)").due(1, "retab(2, 1)").written("a|b/c d/e|f");
        doc.used("a b/c d").refused(OUT, "retab(-1, 1)", "retab(2, 1)").due(1, "retab(1, 1)");
    }

    private static void retabArguments() {
        doc.sentence("- `gap`: the least length of a run, 1 to 16");
        String blanks = Check.times(" ", 16);
        retabbed(blanks, 16, 1, "|");
        retabbed(blanks.substring(1), 16, 0, blanks.substring(1));
        retabbed("a b", 1, 1, "a|b");
        doc.used("a b").refused(ARGUMENT, "retab(0, 0)", "retab(0, 17)");
        doc.sentence("Returns the number of these tabs.");
        retabbed("ab", 1, 0, "ab");
        retabbed("a b c d e f g h", 1, 7, "a|b|c|d|e|f|g|h");

        doc.sentence("if the line does not exist");
        doc.used("a b/c d").refused(OUT, "retab(-1, 1)", "retab(2, 1)", "retab(MAX, 1)", "retab(MIN, 1)");
        doc.used("a b").refusedFirst(OUT, "retab(1, 0)", ARGUMENT, "retab(0, 0)")
                .refusedFirst(OUT, "retab(-1, 17)", ARGUMENT, "retab(0, 17)");
        doc.used("||||||| ").refusedFirst(OUT, "retab(1, 1)", STATE, "retab(0, 1)");
        doc.sentence("if gap is out of range");
        doc.used("a b").refused(ARGUMENT, "retab(0, 0)", "retab(0, 17)", "retab(0, -1)", "retab(0, MAX)", "retab(0, MIN)");
        doc.used("||||||| ").refusedFirst(ARGUMENT, "retab(0, 0)", STATE, "retab(0, 1)");
        doc.used("|||||||" + blanks).refusedFirst(ARGUMENT, "retab(0, 17)", STATE, "retab(0, 16)");

        doc.sentence("if the line would have more than 8 cells");
        doc.on("a b c d|e f g h").due(6, "retab(0, 1)").written("a|b|c|d|e|f|g|h");
        doc.used("a b c d|e f g h ").refused(STATE, "retab(0, 1)").due(0, "retab(0, 2)");
        doc.on("|||||||a").due(0, "retab(0, 1)");
        doc.on("||||||  ").due(1, "retab(0, 2)").due(8, "line(0, 0)");
        doc.used("|||||||  ").refused(STATE, "retab(0, 1)", "retab(0, 2)").due(0, "retab(0, 3)");
        doc.used("a b c d e f g h |").refused(STATE, "retab(0, 1)");
        // Another line is full, but not this one.
        doc.on("||||||| /a b").due(1, "retab(1, 1)");
    }

    private static void undo() {
        doc.sentence("Undoes the latest edit.");
        doc.on("a|b").then("type(0, 0, 1, 'x'); type(0, 0, 2, 10)").then("undo()").written("ax|b").then("undo()")
                .written("a|b");
        // What is no edit is not undone.
        doc.on("a|b").input("q").then("setAlignment(0, 1); setSpacing(0, 3); undo()").due(1, "setAlignment(0, 0)")
                .due(3, "setSpacing(0, 2)").due(1, "clearInput()").written("");
        doc.sentence("Returns how many texts are still kept for undo.");
        doc.fresh().then("type(0, 0, 0, 'a'); type(0, 0, 0, 'b')").due(1, "undo()").due(0, "undo()").due(0, "count(7)");
        Tried many = doc.fresh();
        for (int i = 0; i < 12; i++) {
            many.then("type(0, 0, 0, 'a')");
        }
        many.due(9, "undo()").due(9, "count(7)").due(1, "count(8)");
        doc.sentence("if none is kept for undo");
        doc.fresh().refused(STATE, "undo()");
        doc.fresh().then("type(0, 0, 0, 'a')").due(0, "undo()").refused(STATE, "undo()").due(0, "redo()").written("a");
        for (int i = 0; i < 9; i++) {
            many.then("undo()");
        }
        many.due(0, "count(7)").due(10, "count(8)").refused(STATE, "undo()").written("aa");
    }

    private static void redo() {
        doc.sentence("Redoes what was undone last.");
        doc.on("a|b").then("type(0, 0, 1, 'x'); type(0, 0, 2, 10); undo(); undo()").then("redo()").written("ax|b")
                .then("redo()").written("ax/|b");
        doc.sentence("Returns how many texts are still kept for redo.");
        doc.fresh().then("type(0, 0, 0, 'a'); type(0, 0, 0, 'b'); undo(); undo()").due(1, "redo()").due(0, "redo()")
                .due(0, "count(8)");
        Tried many = doc.fresh();
        for (int i = 0; i < 12; i++) {
            many.then("type(0, 0, 0, 'a')");
        }
        for (int i = 0; i < 10; i++) {
            many.then("undo()");
        }
        for (int left = 9; left >= 0; left--) {
            many.due(left, "redo()").written(Check.times("a", 12 - left));
        }
        doc.sentence("if none is kept for redo");
        many.refused(STATE, "redo()").due(10, "count(7)");
        doc.fresh().refused(STATE, "redo()");
        doc.used("a|b").due(0, "redo()").refused(STATE, "redo()");
        doc.used("a|b").then("type(0, 0, 0, 'x')").refused(STATE, "redo()");
    }
}
