/** Promises 27 to 32: block, sum, mean, touched, ifTyped, digest. */
final class BlockTest {
    private static final Check check = new Check();
    private static final int MAX = Integer.MAX_VALUE;
    private static final int MIN = Integer.MIN_VALUE;

    public static void main(String[] args) {
        numbering();
        widths();
        decimal();
        headings();
        refused();
        sumAndMean();
        touched();
        ifTyped();
        ifTypedRefused();
        digest();
        digestOfAll();
        mostBlocks();
        mostCells();
        check.end("BlockTest");
    }

    private static void facts(TabText x, int block, int... facts) {
        for (int what = 0; what < facts.length; what++) {
            int asked = what;
            check.due("block(" + block + ", " + what + ")", facts[what], () -> x.block(block, asked));
        }
    }

    private static void numbering() {
        TabText x = Check.text("a|bb|c/d|e/f/g|h|i|j/k|l|");
        check.due("blocks", 5, () -> x.count(3));
        facts(x, 0, 0, 0, 1, 3, 0, 1, 0, 0);
        facts(x, 1, 0, 3, 4, 3, 0, 1, 0, 0);
        facts(x, 2, 1, 0, 0, 4, 0, 2, 0, 0);
        facts(x, 3, 1, 3, 4, 3, 0, 1, 0, 0);
        facts(x, 4, 2, 3, 3, 3, 0, 1, 0, 0);
    }

    private static void widths() {
        TabText x = Check.text("abc|/|");
        x.setSpacing(0, 0);
        facts(x, 0, 0, 0, 1, 3, 0, 3);
        x.setSpacing(1, 4);
        facts(x, 0, 0, 0, 1, 4, 0, 3);
        x.setSpacing(0, 8);
        facts(x, 0, 0, 0, 1, 12, 0, 3);
        x.setSpacing(2, 4);
        facts(x, 0, 0, 0, 1, 12, 0, 3);
        x.setSpacing(2, 5);
        facts(x, 0, 0, 0, 1, 15, 0, 3);
        x.setSpacing(1, 20);
        x.setSpacing(2, 8);
        facts(x, 0, 0, 0, 1, 32, 0, 3);
        x.setAlignment(0, 2);
        check.due("centered in the field", 10, () -> x.cell(0, 0, 3));
        TabText thin = Check.text("|");
        thin.setSpacing(0, 0);
        facts(thin, 0, 0, 0, 0, 0, 0, 0, 0, 0);
    }

    private static void decimal() {
        TabText x = Check.text("1.25|/-300|/  |");
        facts(x, 0, 0, 0, 2, 9, 3, 7, 2, 3);
        x.setAlignment(0, 1);
        facts(x, 0, 0, 0, 2, 6, 1, 4, 2, 0);
        x.setAlignment(0, 3);
        x.setAlignment(1, 1);
        facts(x, 0, 0, 0, 2, 9, 3, 7, 2, 3);
        TabText whole = Check.text("1|/22|");
        facts(whole, 0, 0, 0, 1, 4, 3, 2, 2, 0);
        TabText wideBlank = Check.text("1.5|/        |");
        facts(wideBlank, 0, 0, 0, 1, 10, 3, 8, 1, 2);
        check.due("the shift of a number", 5, () -> wideBlank.cell(0, 0, 3));
    }

    private static void headings() {
        facts(Check.text("head|/1|/2|"), 0, 0, 0, 2, 6, 3, 4, 2, 0);
        facts(Check.text("1|/head|/2|"), 0, 0, 0, 2, 6, 0, 4, 2, 0);
        facts(Check.text("head|/1|/x|"), 0, 0, 0, 2, 6, 0, 4, 1, 0);
        facts(Check.text("head|/|/ |"), 0, 0, 0, 2, 6, 0, 4, 0, 0);
        facts(Check.text("head|"), 0, 0, 0, 0, 6, 0, 4, 0, 0);
        facts(Check.text("1|"), 0, 0, 0, 0, 3, 3, 1, 1, 0);
        facts(Check.text("|/ |"), 0, 0, 0, 1, 3, 0, 1, 0, 0);
        facts(Check.text(" |/1.5|"), 0, 0, 0, 1, 5, 3, 3, 1, 2);
        // The last cell of a line belongs to no block, whatever it is.
        facts(Check.text("1|/x"), 0, 0, 0, 0, 3, 3, 1, 1, 0);
    }

    private static void refused() {
        TabText x = Check.text("a|b");
        for (int block : new int[] {-1, 1, MAX, MIN}) {
            check.dueRefused(x, "IndexOutOfBoundsException", "block " + block, () -> x.block(block, 9));
            check.dueRefused(x, "IndexOutOfBoundsException", "sum of " + block, () -> x.sum(block));
            check.dueRefused(x, "IndexOutOfBoundsException", "mean of " + block, () -> x.mean(block));
        }
        for (int what : new int[] {-1, 8, MAX, MIN}) {
            check.dueRefused(x, "IllegalArgumentException", "block fact " + what, () -> x.block(0, what));
        }
    }

    private static void sums(String text, long sum, double mean) {
        TabText x = Check.text(text);
        check.due("sum of " + text, sum, () -> x.sum(0));
        check.due("mean of " + text, mean, () -> x.mean(0));
    }

    private static void sumAndMean() {
        sums("|", 0, 0.0);
        sums("a|/ |", 0, 0.0);
        sums("1|/2|/2|", 50000, 50000.0 / 30000);
        sums("0.1|/0.02|/0.003|/0.0004|", 1234, 1234.0 / 40000);
        sums("-1.5|/x|/2|", 5000, 0.25);
        sums("-0.0001|", -1, -1.0 / 10000);
        sums("999999999.9999|/999999999.9999|", 19999999999998L, 19999999999998.0 / 20000);
        sums("-999999999.9999|", -9999999999999L, -9999999999999.0 / 10000);
        sums("5|9|9/1.|9/7|", 120000, 6.0);
        TabText right = Check.text("1.5|/2|");
        right.setAlignment(0, 1);
        check.due("the sum of numbers on the right", 35000L, () -> right.sum(0));
        check.due("numbers on the right", 2, () -> right.block(0, 6));
    }

    private static void touched() {
        TabText x = Check.text("a|b|/c/d/e|f/g|h|i");
        int[] touched = {2, 2, 1, 2, 2};
        for (int line = 0; line < touched.length; line++) {
            int asked = line;
            check.due("touched(" + line + ")", touched[line], () -> x.touched(asked));
        }
        TabText long4 = Check.text("a|/b|/c|/d|/e|");
        check.due("a long block", 1, () -> long4.touched(2));
        TabText apart = Check.text("a|/b/c|/d/e|");
        check.due("blocks before and behind", 2, () -> apart.touched(1));
        check.due("only the own block", 1, () -> apart.touched(2));
        for (int line : new int[] {-1, 5, MAX, MIN}) {
            check.dueRefused(x, "IndexOutOfBoundsException", "touched(" + line + ")", () -> x.touched(line));
        }
    }

    private static void ifTypedKeeps(TabText x, int want, int line, int cell, int offset, int code) {
        String call = "ifTyped(" + line + ", " + cell + ", " + offset + ", " + code + ")";
        long before = x.digest();
        check.due(call, want, () -> x.ifTyped(line, cell, offset, code));
        check.due(call + " changes nothing", before, x::digest);
    }

    private static void ifTyped() {
        TabText x = Check.text("ab|c|d/e|f/g");
        ifTypedKeeps(x, 3, 0, 0, 2, 'x');
        ifTypedKeeps(x, 0, 1, 0, 0, 'x');
        ifTypedKeeps(x, 1, 0, 1, 0, 'x');
        ifTypedKeeps(x, 0, 0, 2, 0, 'x');
        ifTypedKeeps(x, 0, 2, 0, 0, 'x');
        // The new block of the last line joins the first column, and is wider.
        TabText joins = Check.text("a|b/ccccc");
        ifTypedKeeps(joins, 1, 1, 0, 5, 9);
        // A tab at the beginning moves what follows; the new cell did not exist before.
        ifTypedKeeps(Check.text("abc|d"), 1, 0, 0, 0, 9);
        // A line end divides a line: its cells behind the place are compared with those of the new line.
        ifTypedKeeps(Check.text("abc|d|e/f|g"), 1, 0, 0, 1, 10);
        ifTypedKeeps(Check.text("a|b"), 0, 0, 1, 1, 10);
        // 1.5 becomes a word, so that the points are not below each other any more.
        ifTypedKeeps(Check.text("1|x/100|y/1.5|z"), 3, 2, 0, 0, 'a');
        x.setSpacing(2, 8);
        ifTypedKeeps(x, 0, 0, 0, 2, 'x');
        check.due("type after ifTyped", 3, () -> x.type(0, 0, 2, 'x'));
        check.due("typed after ifTyped", "abx|c|d/e|f/g", () -> Check.written(x));
    }

    private static void ifTypedRefused() {
        TabText x = Check.text("ab|cd/ef");
        int[][] places = {
            {-1, 0, 0}, {2, 0, 0}, {0, -1, 0}, {0, 2, 0}, {1, 1, 0}, {0, 0, -1}, {0, 0, 3}, {MAX, 0, 0}, {0, MAX, 0},
            {0, 0, MAX}, {MIN, 0, 0}, {0, MIN, 0}, {0, 0, MIN}
        };
        for (int[] p : places) {
            check.dueRefused(x, "IndexOutOfBoundsException", "ifTyped at no place", () -> x.ifTyped(p[0], p[1], p[2], '!'));
        }
        for (int code : new int[] {'!', '|', '/', 8, 11, -1, MAX, MIN}) {
            check.dueRefused(x, "IllegalArgumentException", "ifTyped " + code, () -> x.ifTyped(0, 0, 0, code));
        }
        TabText wide = Check.text(Check.times("a", 16));
        check.dueRefused(wide, "IllegalStateException", "the 17th sign", () -> wide.ifTyped(0, 0, 3, 'b'));
        TabText full = Check.text("|||||||");
        check.dueRefused(full, "IllegalStateException", "the eighth tab", () -> full.ifTyped(0, 0, 0, 9));
        TabText high = Check.text(Check.times("/", 23));
        check.dueRefused(high, "IllegalStateException", "the 24th line end", () -> high.ifTyped(0, 0, 0, 10));
    }

    private static long hash(long... values) {
        long hash = 1949;
        for (long value : values) {
            hash = 31 * hash + value;
        }
        return hash;
    }

    private static void digest() {
        TabText x = new TabText();
        check.due("digest of a new object",
                hash(1, 1, 0, 0, 0, 1, 0, 0, 0, 3, 3, 3, 3, 3, 3, 3, 2, 0, 1, 1, 0, 0, 0, 0, 0, 0, 0, -1, 0),
                x::digest);
        TabText y = Check.text("1.5|a");
        Check.input(y, "~ ");
        y.setAlignment(6, 2);
        y.setSpacing(0, 4);
        y.setSpacing(1, 5);
        y.setSpacing(2, 2);
        check.due("digest of a line",
                hash(1, 2, 4, 1, 1, 0, 11, 1, 0, 3, 3, 3, 3, 3, 3, 2, 4, 5, 2, 2, 11, 4, 9,
                        3, 1, 0, 3, 0, '1', '.', '5', 1, 2, 10, 0, -1, 'a', 0, 0, 0, 10, 3, 3, 1, 2, 15000, 2, '~', ' '),
                y::digest);
        long before = y.digest();
        check.due("digest changes nothing", before, y::digest);
    }

    private static void digestOfAll() {
        // Each of these changes a part of the state that the others leave.
        TabText x = Check.text("a|b/c|d");
        long last = x.digest();
        Runnable[] changes = {
            () -> x.append('a'), () -> x.setAlignment(0, 1), () -> x.setSpacing(0, 3), () -> x.setSpacing(1, 1),
            () -> x.setSpacing(2, 2), () -> x.moveLine(0, 0), x::undo, () -> x.type(0, 0, 0, 'x'), x::clearInput
        };
        for (Runnable change : changes) {
            change.run();
            long now = x.digest();
            long was = last;
            check.due("the digest is another one", false, () -> now == was);
            last = now;
        }
    }

    private static void mostBlocks() {
        TabText x = Check.text(Check.times("|||||||//", 11) + "|||||||/");
        check.due("lines", 24, () -> x.count(0));
        check.due("blocks", 84, () -> x.count(3));
        facts(x, 0, 0, 0, 0, 2);
        facts(x, 83, 6, 22, 22, 2);
        check.dueOutOfBounds("block(84, 0)", () -> x.block(84, 0));
        check.due("sum(83)", 0L, () -> x.sum(83));
        check.due("the last block is removed", 0, () -> x.removeColumn(83));
        check.due("blocks without it", 83, () -> x.count(3));
    }

    private static void mostCells() {
        TabText x = Check.text(Check.times("||||/", 23) + "||||");
        for (int i = 0; i < 3; i++) {
            check.due("insertColumn(0)", 24, () -> x.insertColumn(0));
        }
        check.due("cells", 192, () -> x.count(1));
        check.due("blocks", 7, () -> x.count(3));
        check.dueRefused(x, "IllegalStateException", "insertColumn(6)", () -> x.insertColumn(6));
        // Far more than 512 calls, so that a text with all its signs does not make the machine throw.
        for (int i = 0; i < 16 * 192; i++) {
            int line = i / 128;
            int cell = i / 16 % 8;
            x.type(line, cell, 0, '1');
        }
        check.due("signs", 16 * 192, () -> x.count(2));
        check.due("sorted", 0, () -> x.sort(6, 0, true));
        check.due("moved", 7, () -> x.moveLine(0, 23));
        check.due("undo", 9, x::undo);
        check.dueState("type", () -> x.type(23, 7, 16, '1'));
        check.due("erase of the last sign", (int) '1', () -> x.erase(23, 7, 15));
        check.due("the last sign again", 16, () -> x.type(23, 7, 15, '2'));
        check.due("the last sign", (int) '2', () -> x.letter(23, 7, 15));
        check.due("the last cell is set", 16, () -> x.setCell(23, 7));
        check.due("the first cell is set", 16, () -> x.setCell(0, 0));
        check.due("signs", 16 * 190, () -> x.count(2));
    }
}
