import java.io.IOException;

/** The sentences of promises 27 to 32: block, sum, mean, touched, ifTyped, digest. */
final class BlockSentencesTest {
    private static final String OUT = Document.OUT;
    private static final String ARGUMENT = Document.ARGUMENT;
    private static final String STATE = Document.STATE;
    private static final String FULL_CELL = Check.times("a", 16);
    private static final String FULL_TEXT = Check.times("/", 23);
    private static final String MOST_BLOCKS = Check.times("|||||||//", 11) + "|||||||/";
    private static Document doc;

    public static void main(String[] args) throws IOException {
        doc = new Document();
        doc.section("Promise 27: block");
        block();
        doc.section("Promise 28: sum");
        sum();
        doc.section("Promise 29: mean");
        mean();
        doc.section("Promise 30: touched");
        touched();
        doc.section("Promise 31: ifTyped");
        ifTyped();
        ifTypedPlaces();
        ifTypedRefused();
        doc.section("Promise 32: digest");
        digest();
        doc.end("BlockSentencesTest");
    }

    private static void facts(Tried tried, int block, int... wants) {
        for (int what = 0; what < wants.length; what++) {
            tried.due(wants[what], "block(" + block + ", " + what + ")");
        }
    }

    private static void block() {
        doc.sentence("Returns a property of a block.");
        facts(doc.on("q/a|1.25|x/b|-300|"), 1, 1, 1, 2, 9, 3, 7, 2, 3);
        doc.sentence("- `block`: number of the block");
        facts(doc.on("a|bb|c"), 0, 0, 0, 0, 3, 0, 1, 0, 0);
        facts(doc.on("a|bb|c"), 1, 1, 0, 0, 4, 0, 2, 0, 0);
        facts(doc.on(MOST_BLOCKS), 83, 6, 22, 22, 2, 0, 0, 0, 0);

        doc.sentence("0 for its column, 1 for its first line, 2 for its last line, 3 for its width");
        facts(doc.on("|").then("setSpacing(0, 0)"), 0, 0, 0, 0, 0, 0, 0, 0, 0);
        facts(doc.on(FULL_CELL + "|").then("setSpacing(0, 8); setSpacing(1, 20); setSpacing(2, 8)"), 0,
                0, 0, 0, 32, 0, 16, 0, 0);
        facts(doc.on(Check.times("1|/", 23) + "1|"), 0, 0, 0, 23, 3, 3, 1, 24, 0);
        facts(doc.on("-123456789.1234|"), 0, 0, 0, 0, 17, 3, 15, 1, 5);
        // The fraction width is 0 if the alignment is not decimal.
        for (int alignment = 0; alignment <= 2; alignment++) {
            facts(doc.on("1.5|/22|").then("setAlignment(0, " + alignment + ")"), 0, 0, 0, 1, 5, alignment, 3, 2, 0);
        }
        facts(doc.on("1.5|/22|"), 0, 0, 0, 1, 6, 3, 4, 2, 2);
        facts(doc.on("1.5|/w|"), 0, 0, 0, 1, 5, 0, 3, 1, 0);
        doc.sentence("Returns the property.");
        doc.on("a|b").due(3, "block(0, 3)").then("type(0, 0, 1, 'x')").due(4, "block(0, 3)");

        doc.sentence("if the block does not exist");
        doc.used("a|b").due(0, "block(0, 0)").refused(OUT, "block(-1, 0)", "block(1, 0)", "block(MAX, 0)", "block(MIN, 0)")
                .refusedFirst(OUT, "block(1, 8)", ARGUMENT, "block(0, 8)")
                .refusedFirst(OUT, "block(-1, -1)", ARGUMENT, "block(0, -1)");
        doc.used("a").refused(OUT, "block(0, 0)");
        doc.used(MOST_BLOCKS).due(6, "block(83, 0)").refused(OUT, "block(84, 0)");
        doc.sentence("if what is not 0 to 7");
        doc.used("a|b").due(0, "block(0, 0)").due(0, "block(0, 7)")
                .refused(ARGUMENT, "block(0, -1)", "block(0, 8)", "block(0, MAX)", "block(0, MIN)");
    }

    private static void sum() {
        doc.sentence("Returns the sum of the numbers of a block.");
        doc.on("1|/w|/2|/ |/3/4").due(30000, "sum(0)");
        doc.on("1|/2|").then("setAlignment(0, 1)").due(30000, "sum(0)");
        doc.sentence("- `block`: number of the block");
        doc.on("1|2|3").due(10000, "sum(0)").due(20000, "sum(1)");
        doc.sentence("Returns the sum in ten-thousandths.");
        doc.on("|").due(0, "sum(0)");
        doc.on("w|").due(0, "sum(0)");
        doc.on("0.0001|").due(1, "sum(0)");
        doc.on("-0.0001|").due(-1, "sum(0)");
        doc.on("-0|").due(0, "sum(0)");
        doc.on("1.5|/1.25|/1.125|/1.0625|").due(49375, "sum(0)");
        doc.on("1|/-1|").due(0, "sum(0)");
        doc.on("999999999.9999|").due(9999999999999L, "sum(0)");
        doc.on("-999999999.9999|").due(-9999999999999L, "sum(0)");
        // More than an int holds.
        doc.on(Check.times("999999999.9999|/", 7) + "999|").due(70000009989993L, "sum(0)");
        doc.on("1.|/.5|/1234567890|/1.00001|").due(0, "sum(0)");
        doc.sentence("if the block does not exist");
        doc.used("1|").due(10000, "sum(0)").refused(OUT, "sum(-1)", "sum(1)", "sum(MAX)", "sum(MIN)");
        doc.used("1").refused(OUT, "sum(0)");
    }

    private static void mean() {
        doc.sentence("Returns the mean of the numbers of a block.");
        doc.on("1|/w|/2|/ |/9").due(1.5, "mean(0)");
        doc.sentence("- `block`: number of the block");
        doc.on("1|2|3").due(1.0, "mean(0)").due(2.0, "mean(1)");
        doc.sentence("0.0 if there are none");
        doc.on("|").due(0.0, "mean(0)");
        doc.on("w|/ |").due(0.0, "mean(0)");
        doc.on("0|").due(0.0, "mean(0)");
        doc.on("-0|").due(0.0, "mean(0)");
        doc.on("1|/-1|").due(0.0, "mean(0)");
        doc.on("1|/0|/0|").due(10000.0 / 30000, "mean(0)");
        doc.on("-0.0001|").due(-1.0 / 10000, "mean(0)");
        doc.on("-999999999.9999|").due(-9999999999999.0 / 10000, "mean(0)");
        doc.on(Check.times("1|/", 23) + "2|").due(250000.0 / 240000, "mean(0)");
        doc.sentence("if the block does not exist");
        doc.used("1|").due(1.0, "mean(0)").refused(OUT, "mean(-1)", "mean(1)", "mean(MAX)", "mean(MIN)");
        doc.used("1").refused(OUT, "mean(0)");
    }

    private static void touched() {
        doc.sentence("the blocks that have a cell of this line, or of the line before or behind it");
        // Blocks of lines 0, 2, 4; one of two columns in line 0.
        doc.on("a|b|/c/d|/e/f|").due(2, "touched(0)").due(3, "touched(1)").due(1, "touched(2)").due(2, "touched(3)")
                .due(1, "touched(4)");
        // A block two lines away is not touched, one that is a line away is.
        doc.on("a|///").due(1, "touched(0)").due(1, "touched(1)").due(0, "touched(2)").due(0, "touched(3)");
        doc.on("///a|").due(0, "touched(1)").due(1, "touched(2)").due(1, "touched(3)");
        doc.sentence("- `line`: number of the line");
        doc.on("a|/b").due(1, "touched(0)").due(1, "touched(1)");
        doc.on(FULL_TEXT + "|").due(0, "touched(0)").due(1, "touched(23)");
        doc.sentence("Returns the number of these blocks.");
        doc.fresh().due(0, "touched(0)");
        doc.on("a|/b|/c|").due(1, "touched(1)");
        doc.on("|||||||//|||||||").due(7, "touched(0)").due(14, "touched(1)").due(7, "touched(2)");
        doc.sentence("if the line does not exist");
        doc.used("a|/b").refused(OUT, "touched(-1)", "touched(2)", "touched(MAX)", "touched(MIN)").due(1, "touched(1)");
    }

    private static void ifTyped() {
        doc.sentence("Returns how much would be aligned anew if something were typed.");
        doc.on("ab|c|d/e|f/g").due(3, "ifTyped(0, 0, 2, 'x')");
        doc.sentence("Nothing is changed.");
        doc.used("ab|c|d/e|f/g").input("q").keeps(3, "ifTyped(0, 0, 2, 'x')").keeps(0, "ifTyped(0, 2, 0, 'x')")
                .keeps(3, "ifTyped(0, 0, 1, 9)").keeps(1, "ifTyped(0, 0, 1, 10)");
        Tried twice = doc.on("a|b/c|d");
        twice.due(2, "ifTyped(0, 0, 1, 'x')").due(2, "ifTyped(0, 0, 1, 'x')").due(2, "type(0, 0, 1, 'x')")
                .written("ax|b/c|d").due(4, "cell(0, 1, 2)");

        doc.sentence("how many pairs of a line and a cell that exist before and afterwards would have another x");
        // None: the cell is not the widest, or the last one of its line, or the grid has room.
        doc.on("ab|c/e|f").due(0, "ifTyped(1, 0, 0, 'x')").due(0, "ifTyped(0, 1, 0, 'x')");
        doc.on("ab|c").then("setSpacing(2, 8)").due(0, "ifTyped(0, 0, 0, 'x')");
        doc.on("abcdef|c").then("setSpacing(2, 8)").due(1, "ifTyped(0, 0, 0, 'x')");
        doc.fresh().due(0, "ifTyped(0, 0, 0, 'x')").due(0, "ifTyped(0, 0, 0, 9)").due(0, "ifTyped(0, 0, 0, 10)");
        // A tab: cell 1 moves, cell 2 did not exist before.
        doc.on("abc|d").due(1, "ifTyped(0, 0, 0, 9)");
        doc.on("abc|d").due(0, "ifTyped(0, 1, 1, 9)");
        // A tab that joins a block and makes it wider moves the cell of the other line.
        doc.on("a|b/ccccc").due(1, "ifTyped(1, 0, 5, 9)");
        // A line end: line 0 loses its cells, and line 1 of before is compared with the new line 1.
        doc.on("abc|d|e/f|g").due(1, "ifTyped(0, 0, 1, 10)");
        doc.on("a|b").due(0, "ifTyped(0, 1, 1, 10)");
        doc.on("aaaa|b/c|d").due(0, "ifTyped(0, 0, 0, 10)");
        // A number that becomes a word: the block is left aligned, and narrower.
        doc.on("1|x/100|y/1.5|z").due(3, "ifTyped(2, 0, 0, 'a')");
        // All seven cells behind the first one.
        doc.on("|||||||").due(7, "ifTyped(0, 0, 0, 'x')").due(1, "ifTyped(0, 6, 0, 'x')").due(0, "ifTyped(0, 7, 0, 'x')");
    }

    private static void ifTypedPlaces() {
        doc.sentence("- `line`: number of the line");
        doc.on("a|b/c/d|e").due(1, "ifTyped(0, 0, 0, 'x')").due(1, "ifTyped(2, 0, 0, 'x')");
        doc.used("a|b/c").refused(OUT, "ifTyped(-1, 0, 0, 'x')", "ifTyped(2, 0, 0, 'x')", "ifTyped(MAX, 0, 0, 'x')",
                "ifTyped(MIN, 0, 0, 'x')");
        doc.sentence("- `cell`: number of the cell");
        doc.on("a|b|c").due(2, "ifTyped(0, 0, 0, 'x')").due(0, "ifTyped(0, 2, 0, 'x')");
        doc.used("a|b/c").refused(OUT, "ifTyped(0, -1, 0, 'x')", "ifTyped(0, 2, 0, 'x')", "ifTyped(1, 1, 0, 'x')",
                "ifTyped(0, MAX, 0, 'x')", "ifTyped(0, MIN, 0, 'x')");
        doc.sentence("- `offset`: the offset, 0 to the length of the cell");
        doc.on("abc|d").due(1, "ifTyped(0, 0, 0, 'x')").due(1, "ifTyped(0, 0, 3, 'x')");
        doc.used("abc|d").refused(OUT, "ifTyped(0, 0, -1, 'x')", "ifTyped(0, 0, 4, 'x')", "ifTyped(0, 1, 2, 'x')",
                "ifTyped(0, 0, MAX, 'x')", "ifTyped(0, 0, MIN, 'x')");
        doc.sentence("- `code`: as for type");
        doc.on("a|b").allDue(1, "ifTyped(0, 0, 0, 'z')", "ifTyped(0, 0, 0, 'A')", "ifTyped(0, 0, 0, '9')",
                "ifTyped(0, 0, 0, ' ')", "ifTyped(0, 0, 0, ')')", "ifTyped(0, 0, 0, ':')").due(1, "ifTyped(0, 0, 0, 9)")
                .due(0, "ifTyped(0, 0, 0, 10)");

        doc.sentence("Throws `IndexOutOfBoundsException` as type");
        doc.used("ab").refused(OUT, "ifTyped(1, 0, 0, 9)", "ifTyped(0, 1, 0, 10)", "ifTyped(0, 0, 3, 9)")
                .refusedFirst(OUT, "ifTyped(1, 0, 0, '!')", ARGUMENT, "ifTyped(0, 0, 0, '!')")
                .refusedFirst(OUT, "ifTyped(0, 1, 0, '!')", ARGUMENT, "ifTyped(0, 0, 0, '!')")
                .refusedFirst(OUT, "ifTyped(0, 0, 3, '!')", ARGUMENT, "ifTyped(0, 0, 2, '!')");
        doc.used(FULL_CELL).refusedFirst(OUT, "ifTyped(0, 0, 17, 'x')", STATE, "ifTyped(0, 0, 16, 'x')");
        doc.used("|||||||").refusedFirst(OUT, "ifTyped(0, 8, 0, 9)", STATE, "ifTyped(0, 7, 0, 9)");
        doc.used(FULL_TEXT).refusedFirst(OUT, "ifTyped(24, 0, 0, 10)", STATE, "ifTyped(23, 0, 0, 10)");
    }

    private static void ifTypedRefused() {
        doc.sentence("Throws `IllegalArgumentException` as type");
        doc.used("ab").refused(ARGUMENT, "ifTyped(0, 0, 0, 8)", "ifTyped(0, 0, 0, 11)", "ifTyped(0, 0, 0, 31)",
                "ifTyped(0, 0, 0, '!')", "ifTyped(0, 0, 0, '/')", "ifTyped(0, 0, 0, '|')", "ifTyped(0, 0, 0, '@')",
                "ifTyped(0, 0, 0, '[')", "ifTyped(0, 0, 0, '`')", "ifTyped(0, 0, 0, '{')", "ifTyped(0, 0, 0, ';')",
                "ifTyped(0, 0, 0, -1)", "ifTyped(0, 0, 0, MAX)", "ifTyped(0, 0, 0, MIN)");
        doc.used(FULL_CELL).refusedFirst(ARGUMENT, "ifTyped(0, 0, 16, '!')", STATE, "ifTyped(0, 0, 16, 'x')");
        doc.used("|||||||").refusedFirst(ARGUMENT, "ifTyped(0, 0, 0, 8)", STATE, "ifTyped(0, 0, 0, 9)");
        doc.used(FULL_TEXT).refusedFirst(ARGUMENT, "ifTyped(0, 0, 0, 11)", STATE, "ifTyped(0, 0, 0, 10)");

        doc.sentence("Throws `IllegalStateException` as type");
        doc.on(FULL_CELL.substring(1) + "|b").due(1, "ifTyped(0, 0, 0, 'x')");
        doc.used(FULL_CELL + "|b").refused(STATE, "ifTyped(0, 0, 0, 'x')", "ifTyped(0, 0, 16, 'x')")
                .due(0, "ifTyped(0, 0, 16, 10)").due(0, "ifTyped(0, 0, 16, 9)");
        doc.on("||||||").due(0, "ifTyped(0, 0, 0, 9)");
        doc.used("|||||||").refused(STATE, "ifTyped(0, 0, 0, 9)", "ifTyped(0, 7, 0, 9)").due(7, "ifTyped(0, 0, 0, 'x')");
        doc.on(FULL_TEXT.substring(1)).due(0, "ifTyped(22, 0, 0, 10)");
        doc.used(FULL_TEXT).refused(STATE, "ifTyped(0, 0, 0, 10)", "ifTyped(23, 0, 0, 10)").due(0, "ifTyped(23, 0, 0, 9)");
    }

    private static long hash(long... values) {
        long hash = 1949;
        for (long value : values) {
            hash = 31 * hash + value;
        }
        return hash;
    }

    private static void digest() {
        doc.sentence("Computes a hash of the whole state.");
        // Each of these calls changes a part of the state that the others leave.
        String[] changes = {
            "append(97)", "setAlignment(0, 1)", "setAlignment(6, 1)", "setSpacing(0, 3)", "setSpacing(1, 1)",
            "setSpacing(2, 2)", "moveLine(0, 0)", "undo()", "type(0, 0, 0, 'x')", "clearInput()"
        };
        for (String change : changes) {
            long before = Tried.digestAfter("a|b/c|d", "append(113)");
            long after = Tried.digestAfter("a|b/c|d", "append(113)", change);
            doc.compare(change + " leaves the digest as it was, which", false, before == after);
        }
        doc.sentence("The hash starts as 1949; each value x replaces the hash by 31 * hash + x");
        long first = hash(1, 1, 0, 0, 0, 1, 0, 0, 0, 3, 3, 3, 3, 3, 3, 3, 2, 0, 1, 1, 0, 0, 0, 0, 0, 0, 0, -1, 0);
        doc.fresh().due(first, "digest()").due(first, "digest()");

        doc.sentence("The values are, in this order");
        doc.on("1.5|a").input("~ ").then("setAlignment(6, 2); setSpacing(0, 4); setSpacing(1, 5); setSpacing(2, 2)")
                .due(hash(1, 2, 4, 1, 1, 0, 11, 1, 0, 3, 3, 3, 3, 3, 3, 2, 4, 5, 2, 2, 11, 4, 9,
                        3, 1, 0, 3, 0, '1', '.', '5', 1, 2, 10, 0, -1, 'a',
                        0, 0, 0, 10, 3, 3, 1, 2, 15000, 2, '~', ' '), "digest()");
        // Two lines, two blocks, a sum below 0, and a text that is kept for redo.
        doc.on("-1|b|/c").then("moveLine(0, 0); undo()")
                .due(hash(2, 4, 4, 2, 1, 1, 7, 1, 1, 3, 3, 3, 3, 3, 3, 3, 2, 0, 1,
                        3, 7, 3, 16, 2, 1, 0, 0, 0, '-', '1', 1, 2, 4, 0, 1, 'b', 0, 0, 7, 0, -1,
                        1, 1, 1, 1, 1, 2, 0, 0, -1, 'c',
                        0, 0, 0, 4, 3, 2, 1, 0, -10000, 1, 0, 0, 3, 0, 1, 0, 0, 0, 0), "digest()");
        doc.sentence("Returns the hash.");
        doc.fresh().input(Check.times("~", 120)).due(hashOfFullBuffer(), "digest()").due(120, "clearInput()")
                .due(first, "digest()");
    }

    private static long hashOfFullBuffer() {
        long hash = hash(1, 1, 0, 0, 0, 1, 0, 0, 0, 3, 3, 3, 3, 3, 3, 3, 2, 0, 1, 1, 0, 0, 0, 0, 0, 0, 0, -1, 120);
        for (int i = 0; i < 120; i++) {
            hash = 31 * hash + '~';
        }
        return hash;
    }
}
