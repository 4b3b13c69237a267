/** Promises 9 to 15: insertLine, removeLine, moveLine, sort, insertColumn, removeColumn, retab. */
final class LineEditTest {
    private static final Check check = new Check();
    private static final int MAX = Integer.MAX_VALUE;
    private static final int MIN = Integer.MIN_VALUE;

    public static void main(String[] args) {
        insertLine();
        removeLine();
        moveLine();
        sortKinds();
        sortStays();
        sortPart();
        insertColumn();
        removeColumn();
        retab();
        retabRefused();
        check.end("LineEditTest");
    }

    private static void insertLine() {
        TabText x = Check.text("a/b");
        Check.input(x, "0|1");
        check.due("insertLine(0)", 3, () -> x.insertLine(0));
        Check.input(x, "2");
        check.due("insertLine(3)", 4, () -> x.insertLine(3));
        check.due("insertLine(2) of nothing", 5, () -> x.insertLine(2));
        check.due("inserted", "0|1/a//b/2", () -> Check.written(x));
        check.due("insertLine clears the buffer", 0, x::clearInput);
        check.due("insertLine is an edit", 4, () -> x.count(7));
        for (int line : new int[] {-1, 6, MAX, MIN}) {
            check.dueRefused(x, "IndexOutOfBoundsException", "insertLine(" + line + ")", () -> x.insertLine(line));
        }
        Check.input(x, "a/b");
        check.dueRefused(x, "IllegalStateException", "insertLine of a text", () -> x.insertLine(0));
        check.dueRefused(x, "IndexOutOfBoundsException", "insertLine(6) of a text", () -> x.insertLine(6));
        x.clearInput();
        Check.input(x, "||||||||");
        check.dueRefused(x, "IllegalStateException", "insertLine of 9 cells", () -> x.insertLine(0));
        TabText high = Check.text(Check.times("/", 22));
        check.due("insertLine of the 24th", 24, () -> high.insertLine(23));
        check.dueRefused(high, "IllegalStateException", "insertLine of the 25th", () -> high.insertLine(0));
        check.dueRefused(high, "IndexOutOfBoundsException", "insertLine(25)", () -> high.insertLine(25));
    }

    private static void removeLine() {
        TabText x = Check.text("a|b/c/d|e|f/g");
        check.due("removeLine(1)", 3, () -> x.removeLine(1));
        check.due("a middle line is removed", "a|b/d|e|f/g", () -> Check.written(x));
        check.due("removeLine(2)", 2, () -> x.removeLine(2));
        check.due("the last line is removed", "a|b/d|e|f", () -> Check.written(x));
        check.due("removeLine(0)", 1, () -> x.removeLine(0));
        check.due("the first line is removed", "d|e|f", () -> Check.written(x));
        check.due("removeLine is an edit", 4, () -> x.count(7));
        check.dueRefused(x, "IllegalStateException", "removeLine of the only line", () -> x.removeLine(0));
        for (int line : new int[] {-1, 1, MAX, MIN}) {
            check.dueRefused(x, "IndexOutOfBoundsException", "removeLine(" + line + ")", () -> x.removeLine(line));
        }
        TabText empty = Check.text("/");
        check.due("removeLine of an empty last line", 1, () -> empty.removeLine(1));
        check.due("an empty line is left", "", () -> Check.written(empty));
    }

    private static void moveLine() {
        TabText x = Check.text("a|/b/c|/d");
        check.due("moveLine(0, 2)", 1, () -> x.moveLine(0, 2));
        check.due("moved down", "b/c|/a|/d", () -> Check.written(x));
        check.due("moveLine(3, 2)", 2, () -> x.moveLine(3, 2));
        check.due("moved up", "b/c|/d/a|", () -> Check.written(x));
        check.due("moveLine(3, 0)", 2, () -> x.moveLine(3, 0));
        check.due("moved to the beginning", "a|/b/c|/d", () -> Check.written(x));
        check.due("moveLine(1, 1)", 2, () -> x.moveLine(1, 1));
        check.due("not moved", "a|/b/c|/d", () -> Check.written(x));
        check.due("moveLine is an edit", 5, () -> x.count(7));
        for (int line : new int[] {-1, 4, MAX, MIN}) {
            check.dueRefused(x, "IndexOutOfBoundsException", "from " + line, () -> x.moveLine(line, 0));
            check.dueRefused(x, "IndexOutOfBoundsException", "to " + line, () -> x.moveLine(0, line));
        }
    }

    private static void sorted(String before, int block, int skip, boolean descending, int moved, String after) {
        TabText x = Check.text(before);
        String call = before + " sort(" + block + ", " + skip + ", " + descending + ")";
        check.due(call, moved, () -> x.sort(block, skip, descending));
        check.due(call + " makes", after, () -> Check.written(x));
        check.due(call + " is an edit", 2, () -> x.count(7));
    }

    private static void sortKinds() {
        sorted("b|/ |/2|/a|/|/-1.5|/10|", 0, 0, false, 6, "-1.5|/2|/10|/a|/b|/ |/|");
        sorted("b|/ |/2|/a|/|/-1.5|/10|", 0, 0, true, 7, "10|/2|/-1.5|/b|/a|/ |/|");
        sorted("abc|/ab|/B|/b|/a b|/(|", 0, 0, false, 6, "(|/B|/a b|/ab|/abc|/b|");
        sorted("abc|/ab|/B|/b|/a b|/(|", 0, 0, true, 5, "b|/abc|/ab|/a b|/B|/(|");
        sorted("1.|/.5|/1234567890|/5|/-|", 0, 0, false, 5, "5|/-|/.5|/1.|/1234567890|");
        sorted("-0.0001|/-0.001|/0|/999999999.9999|/-999999999.9999|", 0, 0, false, 4,
                "-999999999.9999|/-0.001|/-0.0001|/0|/999999999.9999|");
    }

    private static void sortStays() {
        sorted("1|a/1.0|b/01|c/1.00|d", 0, 0, false, 0, "1|a/1.0|b/01|c/1.00|d");
        sorted("1|a/1.0|b/01|c/2|d", 0, 0, true, 4, "2|d/1|a/1.0|b/01|c");
        sorted("0|a/-0|b/0.0|c", 0, 0, true, 0, "0|a/-0|b/0.0|c");
        sorted("x|a/x|b/w|c", 0, 0, true, 0, "x|a/x|b/w|c");
        sorted("x|a/x|b/w|c", 0, 0, false, 3, "w|c/x|a/x|b");
        sorted("  |a/|b/ |c/x|d", 0, 0, true, 4, "x|d/  |a/|b/ |c");
    }

    private static void sortPart() {
        sorted("z|/c|/b|/a|", 0, 1, false, 2, "z|/a|/b|/c|");
        sorted("z|/c|/b|/a|", 0, 3, false, 0, "z|/c|/b|/a|");
        sorted("z|/c|/b|/a|", 0, 4, false, 0, "z|/c|/b|/a|");
        sorted("9|/8|/q/2|x/1|y/q/0|", 1, 0, false, 2, "9|/8|/q/1|y/2|x/q/0|");
        sorted("a|2|x/b|1|y/c|", 1, 0, false, 2, "b|1|y/a|2|x/c|");
        TabText x = Check.text("b|/a|/q");
        for (int block : new int[] {-1, 1, MAX, MIN}) {
            check.dueRefused(x, "IndexOutOfBoundsException", "sort of block " + block, () -> x.sort(block, 9, true));
        }
        for (int skip : new int[] {-1, 3, MAX, MIN}) {
            check.dueRefused(x, "IllegalArgumentException", "skip " + skip, () -> x.sort(0, skip, false));
        }
        TabText lower = Check.text("q/q/b|/a|");
        check.due("skip of all lines", 0, () -> lower.sort(0, 2, false));
        check.dueRefused(lower, "IllegalArgumentException", "skip of more", () -> lower.sort(0, 3, false));
    }

    private static void insertColumn() {
        TabText x = Check.text("a|b|c/d|e/f/g|h");
        check.due("insertColumn(0)", 2, () -> x.insertColumn(0));
        check.due("a column before block 0", "|a|b|c/|d|e/f/g|h", () -> Check.written(x));
        x.undo();
        check.due("insertColumn(1)", 1, () -> x.insertColumn(1));
        check.due("a column before block 1", "a|b|c/d|e/f/|g|h", () -> Check.written(x));
        x.undo();
        check.due("insertColumn(2)", 1, () -> x.insertColumn(2));
        check.due("a column before block 2", "a||b|c/d|e/f/g|h", () -> Check.written(x));
        check.due("insertColumn is an edit", 2, () -> x.count(7));
        for (int block : new int[] {-1, 4, MAX, MIN}) {
            check.dueRefused(x, "IndexOutOfBoundsException", "insertColumn(" + block + ")", () -> x.insertColumn(block));
        }
        TabText full = Check.text("a|/|||||||/b|");
        check.dueRefused(full, "IllegalStateException", "a line of 8 cells", () -> full.insertColumn(0));
        TabText fullAtTheEnd = Check.text("a|/b|/|||||||");
        check.dueRefused(fullAtTheEnd, "IllegalStateException", "a last line of 8", () -> fullAtTheEnd.insertColumn(0));
        TabText apart = Check.text("a|b/c/|||||||");
        check.due("a line of 8 cells in another block", 1, () -> apart.insertColumn(0));
    }

    private static void removeColumn() {
        TabText x = Check.text("a|b|c/  |e/f/g|h/|i");
        check.due("removeColumn(0)", 1, () -> x.removeColumn(0));
        check.due("block 0 is removed", "b|c/e/f/g|h/|i", () -> Check.written(x));
        x.undo();
        check.due("removeColumn(1)", 1, () -> x.removeColumn(1));
        check.due("block 1 is removed", "a|b|c/  |e/f/h/i", () -> Check.written(x));
        x.undo();
        check.due("removeColumn(2)", 1, () -> x.removeColumn(2));
        check.due("block 2 is removed", "a|c/  |e/f/g|h/|i", () -> Check.written(x));
        check.due("removeColumn is an edit", 2, () -> x.count(7));
        for (int block : new int[] {-1, 2, MAX, MIN}) {
            check.dueRefused(x, "IndexOutOfBoundsException", "removeColumn(" + block + ")", () -> x.removeColumn(block));
        }
        TabText filled = Check.text("1|/a|/ |/|/-|");
        check.due("removeColumn counts", 3, () -> filled.removeColumn(0));
        check.due("all is removed", "////", () -> Check.written(filled));
    }

    private static void retabbed(String before, int gap, int tabs, String after) {
        TabText x = Check.text(before);
        check.due(before + " retab(0, " + gap + ")", tabs, () -> x.retab(0, gap));
        check.due(before + " retab(0, " + gap + ") makes", after, () -> Check.written(x));
        check.due(before + " retab is an edit", 2, () -> x.count(7));
    }

    private static void retab() {
        retabbed("a b  c   d", 1, 3, "a|b|c|d");
        retabbed("a b  c   d", 2, 2, "a b|c|d");
        retabbed("a b  c   d", 3, 1, "a b  c|d");
        retabbed("a b  c   d", 4, 0, "a b  c   d");
        retabbed("  a  ", 2, 2, "|a|");
        retabbed("a  |  b/c  d", 2, 2, "a||" + "|b/c  d");
        retabbed("a |  b", 3, 0, "a |  b");
        retabbed("                ", 16, 1, "|");
        retabbed("", 1, 0, "");
        retabbed(" ", 1, 1, "|");
        retabbed("a b c d e f g h", 1, 7, "a|b|c|d|e|f|g|h");
        TabText x = Check.text("a  b/c  d|e  f/g  h");
        check.due("retab of a middle line", 2, () -> x.retab(1, 2));
        check.due("a middle line", "a  b/c|d|e|f/g  h", () -> Check.written(x));
    }

    private static void retabRefused() {
        TabText x = Check.text("a b c d|e f g h i/k");
        check.dueRefused(x, "IllegalStateException", "9 cells", () -> x.retab(0, 1));
        for (int line : new int[] {-1, 2, MAX, MIN}) {
            check.dueRefused(x, "IndexOutOfBoundsException", "retab of line " + line, () -> x.retab(line, 0));
        }
        for (int gap : new int[] {0, 17, -1, MAX, MIN}) {
            check.dueRefused(x, "IllegalArgumentException", "gap " + gap, () -> x.retab(0, gap));
        }
        TabText full = Check.text("|||||||");
        check.due("retab of a full line without blanks", 0, () -> full.retab(0, 1));
        TabText more = Check.text("||||||| ");
        check.dueRefused(more, "IllegalStateException", "a blank in a full line", () -> more.retab(0, 1));
        check.due("a run that is too short in a full line", 0, () -> more.retab(0, 2));
    }
}
