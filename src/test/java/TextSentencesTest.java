import java.io.IOException;

/** The sentences of "What it is" and "Terms": texts, blocks, widths, edits, input and exceptions. */
final class TextSentencesTest {
    private static final String OUT = Document.OUT;
    private static final String ARGUMENT = Document.ARGUMENT;
    private static final String STATE = Document.STATE;
    private static final String SIGNS =
            "abcdefghijklmnopqrstuvwxyzABCDEFGHIJKLMNOPQRSTUVWXYZ0123456789 .,-+:%()";
    // One call of each edit that can be made with the text "b|/a|" and an empty buffer.
    private static final String[] EDITS = {
        "load()", "type(0, 0, 0, 'x')", "erase(0, 0, 0)", "setCell(0, 0)", "insertLine(0)", "removeLine(0)",
        "moveLine(0, 1)", "sort(0, 0, false)", "insertColumn(0)", "removeColumn(0)", "retab(0, 1)"
    };
    private static final String[] NO_EDITS = {
        "append(32)", "clearInput()", "firstError(0)", "setAlignment(0, 1)", "setSpacing(0, 1)", "count(0)",
        "line(0, 0)", "cell(0, 0, 0)", "letter(0, 0, 0)", "shown(0, 0)", "hit(0, 0)", "find(0, 0)", "block(0, 0)",
        "sum(0)", "mean(0)", "touched(0)", "ifTyped(0, 0, 0, 9)", "digest()"
    };
    private static Document doc;

    public static void main(String[] args) throws IOException {
        doc = new Document();
        doc.section("What it is");
        whatItIs();
        doc.section("Terms");
        texts();
        kinds();
        blocks();
        alignments();
        contentWidths();
        widths();
        places();
        edits();
        undoAndRedo();
        input();
        syntaxErrors();
        exceptions();
        doc.end("TextSentencesTest");
    }

    private static void whatItIs() {
        doc.sentence("each block is as wide as its contents need");
        doc.on("a|x/bbb|y").due(5, "block(0, 3)").then("type(1, 0, 3, 'b')").due(6, "block(0, 3)")
                .then("erase(1, 0, 0); erase(1, 0, 0); erase(1, 0, 0)").due(3, "block(0, 3)");
        doc.sentence("at most 512 calls");
        Tried typed = doc.fresh();
        Tried asked = doc.fresh();
        long first = new TabText().digest();
        for (int i = 1; i <= 255; i++) {
            typed.then("type(0, 0, 0, 'a'); erase(0, 0, 0)");
            asked.then("append(97); clearInput()");
        }
        typed.due(1, "type(0, 0, 0, 'b')").due((int) 'b', "erase(0, 0, 0)");
        asked.due(0, "clearInput()").due(first, "digest()");
    }

    private static void texts() {
        doc.sentence("edits can be undone and redone");
        doc.on("b|/a|").due(2, "sort(0, 0, false)").due(1, "undo()").written("b|/a|").due(0, "redo()")
                .written("a|/b|");

        doc.sentence("A text has 1 to 24 lines, numbered from 0.");
        doc.fresh().due(1, "count(0)").due(1, "line(0, 0)").refused(OUT, "line(-1, 0)", "line(1, 0)")
                .refused(STATE, "removeLine(0)");
        doc.used(Check.times("/", 23)).due(24, "count(0)").due(1, "line(23, 0)").refused(OUT, "line(24, 0)")
                .refused(STATE, "type(0, 0, 0, 10)", "insertLine(0)", "insertLine(24)")
                .input(Check.times("/", 24)).refused(STATE, "load()");
        doc.on(Check.times("/", 22)).due(23, "count(0)").due(24, "type(22, 0, 0, 10)");

        doc.sentence("A line has 1 to 8 cells, numbered from 0");
        doc.used("a").due(1, "line(0, 0)").due(1, "cell(0, 0, 0)").refused(OUT, "cell(0, -1, 0)", "cell(0, 1, 0)");
        doc.on("a|").due(1, "removeColumn(0)").due(1, "line(0, 0)").due(0, "cell(0, 0, 0)");
        doc.used("||||||| /").due(8, "line(0, 0)").due(1, "cell(0, 7, 0)").refused(OUT, "cell(0, 8, 0)")
                .refused(STATE, "type(0, 0, 0, 9)", "retab(0, 1)", "insertColumn(0)")
                .input("||||||||").refused(STATE, "load()", "insertLine(0)");
        doc.used("|||||||/|").refused(STATE, "erase(0, 7, 0)");
        // A tab between two cells: as many blocks as there are tabs.
        doc.on("|||||||").due(7, "count(3)");
        doc.on("a").due(0, "count(3)");

        signs();

        doc.sentence("are 0 (before its first sign) to its length (behind its last sign)");
        doc.on("abc").due(4, "type(0, 0, 0, 'x')").written("xabc");
        doc.on("abc").due(4, "type(0, 0, 3, 'x')").written("abcx");
        doc.used("abc").refused(OUT, "type(0, 0, -1, 'x')", "type(0, 0, 4, 'x')", "erase(0, 0, -1)", "erase(0, 0, 4)");
        doc.on("").due(1, "type(0, 0, 0, 'x')");
        doc.used("").refused(OUT, "type(0, 0, 1, 'x')", "type(0, 0, -1, 'x')");
        String full = Check.times("a", 16);
        doc.on(full).due(2, "type(0, 0, 16, 9)").written(full + "|");
        doc.used(full).refused(OUT, "type(0, 0, 17, 9)");
    }

    private static void signs() {
        doc.sentence("A cell has 0 to 16 signs");
        String full = Check.times("a", 16);
        doc.fresh().due(0, "cell(0, 0, 0)");
        doc.on(full.substring(1)).due(16, "type(0, 0, 15, 'b')");
        doc.used(full).due(16, "cell(0, 0, 0)").refused(STATE, "type(0, 0, 0, 'b')", "type(0, 0, 16, 'b')")
                .input(full + "b").refused(STATE, "setCell(0, 0)", "insertLine(0)", "load()");
        doc.on(full.substring(1) + "|b").due(9, "erase(0, 0, 15)").due(16, "cell(0, 0, 0)");
        doc.used(full + "|b").refused(STATE, "erase(0, 0, 16)");
        doc.used(full + "/b").refused(STATE, "erase(0, 0, 16)");
        for (int code = -1; code <= 300; code++) {
            String call = "type(0, 0, 0, " + code + ")";
            if (SIGNS.indexOf(code) >= 0) {
                doc.fresh().due(1, call).due(code, "letter(0, 0, 0)");
            } else if (code != 9 && code != 10) {
                doc.fresh().refused(ARGUMENT, call);
            }
        }
    }

    private static void kind(int want, String... cells) {
        for (String cell : cells) {
            doc.on(cell).due(want, "cell(0, 0, 1)");
            doc.on("x|/" + cell + "|").due(want, "cell(1, 0, 1)");
        }
    }

    private static void kinds() {
        doc.sentence("A cell is blank if it has no signs other than blanks.");
        kind(0, "", " ", "  ", Check.times(" ", 16));
        kind(2, Check.times(" ", 15) + ".", "." + Check.times(" ", 15), "  ,  ", " 1", "1 ");

        doc.sentence("It is a number if it consists of");
        // "-" or nothing
        kind(1, "0", "-0", "7", "-7");
        kind(2, "--7", "+7", "7-", "-", "- 7", "7-7");
        // 1 to 9 digits
        kind(1, "1", "123456789", "-123456789", "000000000");
        kind(2, "1234567890", "-1234567890", "0000000000", ".5", "-.5");
        // possibly "." and 1 to 4 digits
        kind(1, "1.2", "1.2345", "-0.0001", "123456789.1234", "-123456789.1234");
        kind(2, "1.", "-1.", "1.23456", "1.00000", "1.2.3", "1..2", "1.-2", "1,2", ".", "1234567890.1");

        doc.sentence("Each other cell is a word cell.");
        kind(2, "a", "Z", "1a", "a1", "1%", "(1)", "1:2", "1 2", "%", ":", "(", ")", ",", "+");
    }

    private static void blocks() {
        doc.sentence("The column of a cell is its number in its line.");
        doc.on("|||||||").due(0, "block(0, 0)").due(6, "block(6, 0)").due(6, "cell(0, 6, 4)");

        doc.sentence("A block of column c consists of");
        doc.on("a|").due(1, "count(3)").allDue(0, "block(0, 1)", "block(0, 2)");
        doc.on("a|/b|/c|").due(1, "count(3)").due(0, "block(0, 1)").due(2, "block(0, 2)");
        doc.on("a|/b/c|").due(2, "count(3)").due(0, "block(0, 2)").due(2, "block(1, 1)");
        // The middle line has a cell of column 1, too, but no tab ends it.
        doc.on("a|b|/c|d/e|f|").due(3, "count(3)").due(2, "block(0, 2)").due(0, "block(1, 2)").due(2, "block(2, 1)");
        doc.on(Check.times("|/", 23) + "|").due(1, "count(3)").due(0, "block(0, 1)").due(23, "block(0, 2)");
        doc.on("/a|/").due(1, "count(3)").allDue(1, "block(0, 1)", "block(0, 2)");

        doc.sentence("Blocks are numbered from 0");
        doc.used("a|b|c/d/e|f|g").due(4, "count(3)").due(0, "cell(0, 0, 4)").due(1, "cell(2, 0, 4)")
                .due(2, "cell(0, 1, 4)").due(3, "cell(2, 1, 4)").refused(OUT, "block(-1, 0)", "block(4, 0)");
        // As many blocks as there can be: seven columns, and each second line of 24.
        doc.used(Check.times("|||||||//", 11) + "|||||||/").due(84, "count(3)").due(11, "cell(22, 0, 4)")
                .due(12, "cell(0, 1, 4)").due(83, "cell(22, 6, 4)").due(6, "block(83, 0)").due(22, "block(83, 1)")
                .refused(OUT, "block(84, 0)");

        doc.sentence("The last cell of a line belongs to no block.");
        doc.on("a").due(-1, "cell(0, 0, 4)").due(0, "count(3)");
        doc.on("a|b").due(0, "cell(0, 0, 4)").due(-1, "cell(0, 1, 4)");
        doc.on("|||||||").due(6, "cell(0, 6, 4)").due(-1, "cell(0, 7, 4)");
        doc.on("a|/bbbb").due(3, "block(0, 3)").due(-1, "cell(1, 0, 4)");
    }

    private static void aligned(int want, String... texts) {
        for (String text : texts) {
            doc.on(text).due(want, "block(0, 4)");
        }
    }

    private static void alignments() {
        doc.sentence("For each column 0 to 6 there is an alignment");
        for (int column = 0; column <= 6; column++) {
            doc.on("|||||||").due(3, "setAlignment(" + column + ", 0)").due(0, "setAlignment(" + column + ", 1)")
                    .due(1, "setAlignment(" + column + ", 2)").due(2, "block(" + column + ", 4)")
                    .due(2, "setAlignment(" + column + ", 3)").due(0, "block(" + column + ", 4)");
        }
        doc.used("|||||||").refused(ARGUMENT, "setAlignment(-1, 0)", "setAlignment(7, 0)", "setAlignment(0, -1)",
                "setAlignment(0, 4)");

        doc.sentence("The alignment of a block is that of its column; but if this is automatic");
        for (int alignment = 0; alignment <= 2; alignment++) {
            doc.on("1|/2|").then("setAlignment(0, " + alignment + ")").due(alignment, "block(0, 4)");
            doc.on("w|/v|").then("setAlignment(0, " + alignment + ")").due(alignment, "block(0, 4)");
        }
        // At least one cell is a number.
        aligned(3, "1|", "1|/|", "|/1|", " |/ |/1|");
        aligned(0, "|", " |/|", "w|/|");
        // Each of its cells is blank or a number, except the one in its first line.
        aligned(3, "w|/1|", "w|/1|/|", "w|/|/1|", "w|/1|/2|");
        aligned(0, "1|/w|", "w|/w|/1|", "w|/1|/w|", "|/w|/1|", "1|/2|/w|");
        // It may be a word cell if the block has more than one line.
        aligned(0, "w|", "w|/1", "w|//1|");
        // The first line of the block is not that of the text.
        aligned(3, "q/w|/1|");
    }

    private static void contentWidths() {
        doc.sentence("The whole part of a number is all before its point");
        doc.on("12.345|").due(4, "block(0, 7)").due(6, "block(0, 5)");
        doc.on("12.345|/-123|").due(4, "block(0, 7)").due(8, "block(0, 5)").due(2, "cell(0, 0, 3)")
                .due(0, "cell(1, 0, 3)");
        doc.on("-12|").due(0, "block(0, 7)").due(3, "block(0, 5)");

        doc.sentence("the fraction width be the greatest length of a fraction of its numbers (0 if there is none)");
        doc.on("12|/3|").due(0, "block(0, 7)").due(2, "block(0, 5)");
        doc.on("1.5|/-22.25|/333|").due(3, "block(0, 7)").due(6, "block(0, 5)");
        doc.on("123456789|/0.1234|").due(5, "block(0, 7)").due(14, "block(0, 5)");
        doc.on("-123456789|/0.1234|").due(5, "block(0, 7)").due(15, "block(0, 5)");
        // At least the length of each of its cells that is not a number.
        doc.on("abcdef|/1.5|/-22.25|/333|").due(3, "block(0, 4)").due(6, "block(0, 5)");
        doc.on("abcdefg|/1.5|/-22.25|/333|").due(3, "block(0, 4)").due(7, "block(0, 5)");
        doc.on("1.5|/-22.25|/333|/      |").due(6, "block(0, 5)");
        doc.on("1.5|/-22.25|/333|/       |").due(7, "block(0, 5)");

        doc.sentence("For each other block the content width is the greatest length of its cells.");
        doc.on("|").due(0, "block(0, 5)");
        doc.on("a|/bb|/|").due(2, "block(0, 5)");
        doc.on(Check.times("a", 16) + "|/b|").due(16, "block(0, 5)");
        for (int alignment = 0; alignment <= 2; alignment++) {
            doc.on("1.25|/-300|").due(7, "block(0, 5)").then("setAlignment(0, " + alignment + ")")
                    .due(4, "block(0, 5)").due(0, "block(0, 7)");
        }
        // The last cells of the lines are no cells of the block.
        doc.on("a|bbbbbb/c|").due(1, "block(0, 5)");
    }

    private static void widths() {
        doc.sentence("The width of a block is the greater one of its content width and the least width");
        doc.on("abc|").due(5, "block(0, 3)").then("setSpacing(1, 2)").due(5, "block(0, 3)")
                .then("setSpacing(1, 3)").due(5, "block(0, 3)").then("setSpacing(1, 4)").due(6, "block(0, 3)");
        doc.on("abc|").then("setSpacing(2, 4)").due(8, "block(0, 3)").then("setSpacing(2, 5)").due(5, "block(0, 3)")
                .then("setSpacing(2, 6)").due(6, "block(0, 3)").then("setSpacing(2, 3)").due(6, "block(0, 3)");
        doc.on("|").then("setSpacing(0, 0)").due(0, "block(0, 3)").then("setSpacing(2, 8)").due(0, "block(0, 3)")
                .then("setSpacing(0, 1)").due(8, "block(0, 3)").then("setSpacing(0, 8)").due(8, "block(0, 3)")
                .then("setSpacing(1, 1)").due(16, "block(0, 3)").then("setSpacing(1, 20)").due(32, "block(0, 3)");

        doc.sentence("The padding is 0 to 8 (2 at first), the least width 0 to 20 (0 at first), the grid 1 to 8");
        doc.fresh().due(2, "setSpacing(0, 0)").due(0, "setSpacing(0, 8)").due(8, "setSpacing(0, 2)");
        doc.fresh().due(0, "setSpacing(1, 20)").due(20, "setSpacing(1, 0)").due(0, "setSpacing(1, 0)");
        doc.fresh().due(1, "setSpacing(2, 8)").due(8, "setSpacing(2, 1)").due(1, "setSpacing(2, 1)");
        doc.used("a|b").refused(ARGUMENT, "setSpacing(0, -1)", "setSpacing(0, 9)", "setSpacing(1, -1)",
                "setSpacing(1, 21)", "setSpacing(2, 0)", "setSpacing(2, 9)", "setSpacing(2, -1)");

        doc.sentence("The field of a block is its width minus the padding.");
        // On the right a cell ends with the field: 8 wide at first, then 7 with a padding of 1.
        doc.on("abc|").then("setAlignment(0, 1); setSpacing(2, 8); setSpacing(0, 0)").due(5, "cell(0, 0, 3)")
                .then("setSpacing(0, 1)").due(4, "cell(0, 0, 3)").then("setSpacing(0, 5)").due(0, "cell(0, 0, 3)")
                .then("setSpacing(0, 8)").due(16, "block(0, 3)").due(5, "cell(0, 0, 3)");
    }

    private static void places() {
        doc.sentence("The x of a cell is the sum of the widths of the blocks");
        doc.on("abc|de|f|g").due(0, "cell(0, 0, 2)").due(5, "cell(0, 1, 2)").due(9, "cell(0, 2, 2)")
                .due(12, "cell(0, 3, 2)");
        doc.on("|||||||").then("setSpacing(0, 8); setSpacing(1, 20); setSpacing(2, 8)").due(192, "cell(0, 6, 2)")
                .due(224, "cell(0, 7, 2)");
        doc.on("||").then("setSpacing(0, 0)").allDue(0, "cell(0, 0, 2)", "cell(0, 1, 2)", "cell(0, 2, 2)");

        shifts();

        doc.sentence("A line is shown by its cells at these places, with blanks everywhere else.");
        doc.on("a|b/ccc|d").then("setAlignment(0, 1)").shownAs("  a  b", "ccc  d").due(32, "shown(0, 0)")
                .due((int) 'a', "shown(0, 2)").due((int) 'b', "shown(0, 5)").allDue(32, "shown(0, 6)", "shown(0, MAX)");
        doc.on("|||||||z").then("setSpacing(0, 8); setSpacing(1, 20); setSpacing(2, 8)").due(32, "shown(0, 223)")
                .due((int) 'z', "shown(0, 224)").due(32, "shown(0, 225)");

        doc.sentence("The shown length of a line is");
        doc.fresh().due(0, "line(0, 1)");
        doc.on("abc").due(3, "line(0, 1)");
        doc.on("ab|").due(4, "line(0, 1)");
        doc.on("ab|cde").due(7, "line(0, 1)");
        doc.on("|" + Check.times(" ", 16)).due(18, "line(0, 1)");
    }

    private static void shifts() {
        doc.sentence("The shift of a cell is how many columns behind its x its first sign is shown");
        String steps = "abcd|/abc|/ab|/a|/|";
        int[][] shifts = {{0, 0, 0, 0, 0}, {0, 1, 2, 3, 4}, {0, 0, 1, 1, 2}};
        for (int alignment = 0; alignment <= 2; alignment++) {
            for (int line = 0; line < 5; line++) {
                doc.on(steps).then("setAlignment(0, " + alignment + ")")
                        .due(shifts[alignment][line], "cell(" + line + ", 0, 3)");
            }
        }
        // The last cell of a line, also where the column has an alignment.
        doc.on("a|b/c|dddd|e").then("setAlignment(1, 1)").due(0, "cell(0, 1, 3)");
        doc.on("a|b/c|dddd|e").then("setAlignment(1, 2)").due(0, "cell(0, 1, 3)");
        // Decimal: whole parts end at column 3 of a field of 6, what is no number ends with the field.
        doc.on("head|/1.25|/-22|/|/ |/-22.5|").due(3, "block(0, 4)").due(2, "cell(0, 0, 3)").due(2, "cell(1, 0, 3)")
                .due(0, "cell(2, 0, 3)").due(6, "cell(3, 0, 3)").due(5, "cell(4, 0, 3)").due(0, "cell(5, 0, 3)");
        doc.on("head|/1.25|/-22|").then("setSpacing(1, 7)").due(3, "cell(0, 0, 3)").due(3, "cell(1, 0, 3)")
                .due(1, "cell(2, 0, 3)");
    }

    private static void edits() {
        doc.sentence("is an edit, also if the text stays the same by it");
        for (String edit : EDITS) {
            doc.on("b|/a|").due(1, "count(7)").then(edit).due(2, "count(7)");
        }
        doc.on("a|b").input("a|b").due(1, "load()").written("a|b").due(2, "count(7)");
        doc.on("a|b").input("a").due(1, "setCell(0, 0)").written("a|b").due(2, "count(7)");
        doc.on("a|b").due(1, "moveLine(0, 0)").written("a|b").due(2, "count(7)");
        doc.on("a|b").due(0, "sort(0, 0, false)").written("a|b").due(2, "count(7)");
        doc.on("a|b").due(0, "retab(0, 1)").written("a|b").due(2, "count(7)");
        for (String call : NO_EDITS) {
            doc.on("b|/a|").then("undo(); redo()").then(call).due(1, "count(7)").due(0, "count(8)").written("b|/a|");
        }

        doc.sentence("at most 10 texts are kept in this way");
        Tried ten = doc.fresh();
        for (int i = 1; i <= 10; i++) {
            ten.then("type(0, 0, 0, 'a')").due(i, "count(7)");
        }
        for (int left = 9; left >= 0; left--) {
            ten.due(left, "undo()").written(Check.times("a", left));
        }
        ten.refused(STATE, "undo()");
        Tried eleven = doc.fresh();
        for (int i = 1; i <= 11; i++) {
            eleven.then("type(0, 0, 0, 'a')").due(Math.min(i, 10), "count(7)");
        }
        for (int left = 9; left >= 0; left--) {
            eleven.due(left, "undo()").written(Check.times("a", left + 1));
        }
        eleven.refused(STATE, "undo()").written("a");
        keptOfMany();
    }

    /** Many more edits than texts are kept: the last ten can be undone and redone. */
    private static void keptOfMany() {
        Tried many = doc.fresh();
        for (int i = 10; i <= 45; i++) {
            many.input(String.valueOf(i)).then("load()");
        }
        for (int left = 9; left >= 0; left--) {
            many.due(left, "undo()").written(String.valueOf(35 + left));
        }
        many.refused(STATE, "undo()");
        for (int left = 9; left >= 0; left--) {
            many.due(left, "redo()").written(String.valueOf(45 - left));
        }
        many.refused(STATE, "redo()").due(10, "count(7)");
    }

    private static void undoAndRedo() {
        doc.sentence("To undo makes the text as it was saved last");
        doc.on("a|b").then("type(0, 0, 0, 10)").due(2, "count(7)").due(0, "count(8)").due(1, "undo()").written("a|b")
                .due(1, "count(7)").due(1, "count(8)").due(0, "undo()").written("").due(0, "count(7)")
                .due(2, "count(8)").refused(STATE, "undo()");

        doc.sentence("To redo goes back in the same way.");
        doc.on("a|b").then("type(0, 0, 0, 10); undo(); undo()").due(1, "redo()").written("a|b").due(1, "count(7)")
                .due(1, "count(8)").due(0, "redo()").written("/a|b").due(2, "count(7)").due(0, "count(8)")
                .refused(STATE, "redo()").due(1, "undo()").written("a|b");

        doc.sentence("An edit forgets all texts that are kept for redo.");
        for (String edit : EDITS) {
            doc.on("b|/a|").then("moveLine(0, 0); moveLine(0, 0); undo(); undo()").due(2, "count(8)").then(edit)
                    .due(0, "count(8)").refused(STATE, "redo()");
        }
        for (String call : NO_EDITS) {
            doc.on("b|/a|").then("moveLine(0, 0); moveLine(0, 0); undo(); undo()").then(call).due(2, "count(8)");
        }

        doc.sentence("Alignments and spacing do not belong to the text.");
        doc.on("a|b").then("setAlignment(0, 1); setSpacing(0, 5); setSpacing(1, 6); setSpacing(2, 7); undo(); redo()")
                .due(1, "block(0, 4)").due(14, "block(0, 3)").then("load()").due(1, "setAlignment(0, 1)")
                .due(5, "setSpacing(0, 5)").due(6, "setSpacing(1, 6)").due(7, "setSpacing(2, 7)");
    }

    private static void input() {
        doc.sentence("The input buffer has at most 120 characters.");
        Tried buffer = doc.used("a|b").input(Check.times("z", 119)).due(120, "append(126)");
        buffer.refused(STATE, "append(126)", "append(32)").due(120, "clearInput()").due(1, "append(32)");

        doc.sentence("It is read as a cell (kind 0");
        error("a b", 3, 3, 3);
        error("a|b", 1, 3, 3);
        error("a/b", 1, 1, 3);
        error("a|b/c|d", 1, 3, 7);

        doc.sentence("An empty buffer is an empty cell, a line with one empty cell, or a text with one such line.");
        error("", 0, 0, 0);
        doc.on("ab|c").due(2, "setCell(0, 0)").written("|c");
        doc.on("ab|c").due(2, "insertLine(1)").due(1, "line(1, 0)").due(0, "cell(1, 0, 0)").written("ab|c/");
        doc.on("ab|c/d").due(1, "load()").due(1, "line(0, 0)").due(0, "cell(0, 0, 0)").written("");
    }

    /** The first syntax errors of a buffer that is read as a cell, as a line and as a text. */
    private static void error(String buffer, int asCell, int asLine, int asText) {
        doc.fresh().input(buffer).due(asCell, "firstError(0)").due(asLine, "firstError(1)").due(asText, "firstError(2)");
    }

    private static void syntaxErrors() {
        doc.sentence("so are the seventeenth sign of a cell");
        String full = Check.times("a", 16);
        // From left to right: the first one of several errors.
        error("a!b!", 1, 1, 1);
        error("!", 0, 0, 0);
        error("abc~", 3, 3, 3);
        error(full + "!", 16, 16, 16);
        // The seventeenth sign, and signs that are counted anew behind "|" and "/".
        error(full, 16, 16, 16);
        error(full + "b", 16, 16, 16);
        error(full + "|" + full, 16, 33, 33);
        error(full + "|" + full + "b", 16, 33, 33);
        error(full + "/" + full, 16, 16, 33);
        error(full + "/" + full + "b", 16, 16, 33);
        error("|/" + full + "b", 0, 1, 18);
        // The eighth "|", and those that are counted anew behind "/".
        error("|||||||", 0, 7, 7);
        error("||||||||", 0, 7, 7);
        error("a|b|c|d|e|f|g|h", 1, 15, 15);
        error("a|b|c|d|e|f|g|h|i", 1, 15, 15);
        error("|||||||/|||||||", 0, 7, 15);
        error("|||||||/||||||||", 0, 7, 15);
        // The twenty-fourth "/".
        error(Check.times("/", 23), 0, 0, 23);
        error(Check.times("/", 24), 0, 0, 23);
        error(Check.times("a/", 23) + "b", 1, 1, 47);
        error(Check.times("a/", 23) + "b/c", 1, 1, 47);

        doc.sentence("A buffer without a syntax error is complete.");
        doc.on("q").input("a|b/").due(4, "firstError(2)").due(2, "load()").written("a|b/");
        doc.on("q").input("|").due(1, "firstError(1)").due(2, "insertLine(0)").written("|/q");
        doc.on("q").input("a").due(1, "firstError(0)").due(1, "setCell(0, 0)").written("a");
    }

    private static void exceptions() {
        doc.sentence("A call that throws an exception changes nothing.");
        doc.used("a|b/" + Check.times("c", 16) + "/|||||||").input("q!")
                .refused(ARGUMENT, "append(31)", "firstError(3)", "type(0, 0, 0, 33)", "sort(0, 4, true)", "retab(0, 17)",
                        "setAlignment(7, 0)", "setSpacing(3, 0)", "count(9)", "line(0, 4)", "cell(0, 0, 5)",
                        "block(0, 8)", "ifTyped(0, 0, 0, 33)")
                .refused(OUT, "type(3, 0, 0, 97)", "erase(0, 2, 0)", "setCell(3, 0)", "insertLine(4)", "removeLine(3)",
                        "moveLine(0, 3)", "sort(9, 0, true)", "insertColumn(9)", "removeColumn(9)", "retab(3, 1)",
                        "line(3, 0)", "cell(3, 0, 0)", "letter(0, 0, 1)", "shown(3, 0)", "hit(3, 0)", "find(3, 0)",
                        "block(9, 0)", "sum(9)", "mean(9)", "touched(3)", "ifTyped(3, 0, 0, 97)")
                .refused(STATE, "load()", "type(1, 0, 0, 97)", "erase(2, 7, 0)", "setCell(0, 0)", "insertLine(0)",
                        "insertColumn(1)", "find(0, 0)", "ifTyped(2, 0, 0, 9)");

        doc.sentence("the one that is named first in the throws clause is thrown");
        doc.fresh().input(Check.times("a", 120)).refusedFirst(ARGUMENT, "append(127)", STATE, "append(126)");
        doc.used(Check.times("a", 16)).refusedFirst(OUT, "type(1, 0, 0, 33)", ARGUMENT, "type(0, 0, 0, 33)")
                .refusedFirst(OUT, "type(0, 0, 17, 97)", STATE, "type(0, 0, 16, 97)");
    }
}
