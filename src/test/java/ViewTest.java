/** Promises 18 to 26: setAlignment, setSpacing, count, line, cell, letter, shown, hit, find. */
final class ViewTest {
    private static final Check check = new Check();
    private static final int MAX = Integer.MAX_VALUE;
    private static final int MIN = Integer.MIN_VALUE;
    private static final int[] NO_LINES = {-1, 3, MAX, MIN};

    public static void main(String[] args) {
        setAlignment();
        setSpacing();
        count();
        line();
        cell();
        cellKinds();
        letter();
        shown();
        shownDecimals();
        hit();
        find();
        check.end("ViewTest");
    }

    private static void setAlignment() {
        TabText x = new TabText();
        for (int column = 0; column <= 6; column++) {
            int asked = column;
            check.due("automatic at first", 3, () -> x.setAlignment(asked, asked % 4));
        }
        for (int column = 0; column <= 6; column++) {
            int asked = column;
            check.due("the previous alignment", column % 4, () -> x.setAlignment(asked, 3));
        }
        check.due("setAlignment is no edit", 0, () -> x.count(7));
        for (int value : new int[] {-1, 7, MAX, MIN}) {
            check.dueRefused(x, "IllegalArgumentException", "column " + value, () -> x.setAlignment(value, 0));
        }
        for (int value : new int[] {-1, 4, MAX, MIN}) {
            check.dueRefused(x, "IllegalArgumentException", "alignment " + value, () -> x.setAlignment(0, value));
        }
    }

    private static void setSpacing() {
        TabText x = new TabText();
        int[] firsts = {2, 0, 1};
        int[] least = {0, 0, 1};
        int[] most = {8, 20, 8};
        for (int what = 0; what < 3; what++) {
            int asked = what;
            check.due("spacing " + what + " at first", firsts[what], () -> x.setSpacing(asked, most[asked]));
            check.due("spacing " + what + " at most", most[what], () -> x.setSpacing(asked, least[asked]));
            check.due("spacing " + what + " at least", least[what], () -> x.setSpacing(asked, 3));
            for (int value : new int[] {least[what] - 1, most[what] + 1, MAX, MIN}) {
                check.dueRefused(x, "IllegalArgumentException", "spacing " + value, () -> x.setSpacing(asked, value));
            }
        }
        check.due("setSpacing is no edit", 0, () -> x.count(7));
        for (int what : new int[] {-1, 3, MAX, MIN}) {
            check.dueRefused(x, "IllegalArgumentException", "spacing of " + what, () -> x.setSpacing(what, 2));
        }
    }

    private static void count() {
        TabText x = Check.text("a|1.5| /bb||-2/ccc");
        x.type(2, 0, 3, 'd');
        x.undo();
        int[] counts = {3, 7, 12, 2, 2, 2, 11, 1, 1};
        for (int what = 0; what < counts.length; what++) {
            int asked = what;
            check.due("count(" + what + ")", counts[what], () -> x.count(asked));
        }
        for (int what : new int[] {-1, 9, MAX, MIN}) {
            check.dueRefused(x, "IllegalArgumentException", "count(" + what + ")", () -> x.count(what));
        }
        TabText last = Check.text("a|b/abcdefghij");
        check.due("the greatest shown length is not the first line's", 10, () -> last.count(6));
    }

    private static void line() {
        TabText x = Check.text("abcdefgh|b|/1/12345678|1234567|z");
        int[][] facts = {{3, 13, 9, 24}, {1, 1, 1, 1}, {3, 20, 16, 25}};
        for (int line = 0; line < 3; line++) {
            for (int what = 0; what < 4; what++) {
                int l = line;
                int w = what;
                int want = facts[line][what];
                check.due("line(" + line + ", " + what + ")", want, () -> x.line(l, w));
            }
        }
        TabText stops = Check.text("|/abcdefg|/abcdefgh|/abcdefgh|abcdefghi|a");
        int[] lengths = {8, 8, 16, 33};
        for (int line = 0; line < lengths.length; line++) {
            int asked = line;
            check.due("fixed stops of line " + line, lengths[line], () -> stops.line(asked, 3));
        }
        for (int line : NO_LINES) {
            check.dueRefused(x, "IndexOutOfBoundsException", "line " + line, () -> x.line(line, 9));
        }
        for (int what : new int[] {-1, 4, MAX, MIN}) {
            check.dueRefused(x, "IllegalArgumentException", "line fact " + what, () -> x.line(0, what));
        }
    }

    private static void cell() {
        TabText x = Check.text("a|22|x/bbb|5|/c");
        int[][][] facts = {
            {{1, 2, 0, 0, 0}, {2, 1, 5, 0, 1}, {1, 2, 9, 0, -1}},
            {{3, 2, 0, 0, 0}, {1, 1, 5, 1, 1}, {0, 0, 9, 0, -1}},
            {{1, 2, 0, 0, -1}}
        };
        for (int line = 0; line < facts.length; line++) {
            for (int cell = 0; cell < facts[line].length; cell++) {
                for (int what = 0; what < 5; what++) {
                    int l = line;
                    int c = cell;
                    int w = what;
                    int want = facts[line][cell][what];
                    check.due("cell(" + l + ", " + c + ", " + w + ")", want, () -> x.cell(l, c, w));
                }
            }
        }
        for (int[] p : new int[][] {{-1, 0}, {3, 0}, {0, -1}, {0, 3}, {2, 1}, {MAX, MAX}, {MIN, MIN}}) {
            check.dueRefused(x, "IndexOutOfBoundsException", "cell " + p[0], () -> x.cell(p[0], p[1], 9));
        }
        for (int what : new int[] {-1, 5, MAX, MIN}) {
            check.dueRefused(x, "IllegalArgumentException", "cell fact " + what, () -> x.cell(0, 0, what));
        }
    }

    private static void cellKinds() {
        String[] blanks = {"", " ", "                "};
        String[] numbers = {"0", "-0", "7", "123456789", "-123456789", "1.5", "0.1234", "-123456789.1234", "007.10"};
        String[] words = {
            "a", "-", ".", "1.", ".5", "-.5", "1234567890", "1.12345", "--1", "+1", "1-", "1.2.3", "1,5", " 1",
            "1 ", "1 2", "1%", "(1)", "-1.-5", "1..2", "1:2"
        };
        for (String s : blanks) {
            kind(s, 0);
        }
        for (String s : numbers) {
            kind(s, 1);
        }
        for (String s : words) {
            kind(s, 2);
        }
    }

    private static void kind(String s, int want) {
        TabText x = Check.text(s + "|" + s);
        check.due("kind of \"" + s + "\"", want, () -> x.cell(0, 0, 1));
        check.due("kind of \"" + s + "\" at the end", want, () -> x.cell(0, 1, 1));
    }

    private static void letter() {
        TabText x = Check.text("ab|c/ d/");
        check.due("letter(0, 0, 1)", (int) 'b', () -> x.letter(0, 0, 1));
        check.due("letter(0, 1, 0)", (int) 'c', () -> x.letter(0, 1, 0));
        check.due("letter(1, 0, 0)", 32, () -> x.letter(1, 0, 0));
        int[][] places = {
            {-1, 0, 0}, {3, 0, 0}, {0, -1, 0}, {0, 2, 0}, {1, 1, 0}, {0, 0, -1}, {0, 0, 2}, {0, 1, 1}, {2, 0, 0},
            {MAX, 0, 0}, {0, MAX, 0}, {0, 0, MAX}, {MIN, 0, 0}, {0, MIN, 0}, {0, 0, MIN}
        };
        for (int[] p : places) {
            check.dueRefused(x, "IndexOutOfBoundsException", "no letter", () -> x.letter(p[0], p[1], p[2]));
        }
    }

    private static void aligned(TabText x, int alignment, String... lines) {
        x.setAlignment(0, alignment);
        for (int line = 0; line < lines.length; line++) {
            int asked = line;
            check.due("alignment " + alignment + ", line " + line, lines[line], () -> Check.shownLine(x, asked));
        }
    }

    private static void shown() {
        TabText x = Check.text("a|x/bcde|y/ f|z");
        aligned(x, 0, "a     x", "bcde  y", " f    z");
        aligned(x, 1, "   a  x", "bcde  y", "   f  z");
        aligned(x, 2, " a    x", "bcde  y", "  f   z");
        aligned(x, 3, "a     x", "bcde  y", " f    z");
        x.setSpacing(0, 0);
        aligned(x, 1, "   ax", "bcdey", "   fz");
        x.setSpacing(1, 6);
        aligned(x, 2, "  a   x", " bcde y", "   f  z");
        x.setSpacing(0, 1);
        x.setSpacing(2, 5);
        aligned(x, 1, "        a x", "     bcde y", "        f x".replace('x', 'z'));
        check.due("behind the line", 32, () -> x.shown(0, 11));
        check.due("far behind the line", 32, () -> x.shown(0, MAX));
        for (int line : NO_LINES) {
            check.dueRefused(x, "IndexOutOfBoundsException", "shown line " + line, () -> x.shown(line, 0));
        }
        check.dueRefused(x, "IndexOutOfBoundsException", "column -1", () -> x.shown(0, -1));
        check.dueRefused(x, "IndexOutOfBoundsException", "column MIN", () -> x.shown(0, MIN));
        TabText thin = Check.text("||a|b");
        thin.setSpacing(0, 0);
        check.due("cells without a width", "ab", () -> Check.shownLine(thin, 0));
    }

    private static void shownDecimals() {
        TabText x = Check.text("sum|x/1.5|y/-22|z/|u/ |v/0.125|w");
        aligned(x, 3, "    sum  x", "  1.5    y", "-22      z", "         u", "         v", "  0.125  w");
        TabText heading = Check.text("a heading|x/1.5|y/22|z");
        aligned(heading, 3, "a heading  x", "      1.5  y", "     22    z");
        aligned(heading, 0, "a heading  x", "1.5        y", "22         z");
    }

    private static void hit() {
        TabText x = Check.text("ab|c|d/e||f/g");
        int[] cells = {0, 0, 0, 0, 1, 1, 1, 2, 2};
        for (int column = 0; column < cells.length; column++) {
            int asked = column;
            check.due("hit(0, " + column + ")", cells[column], () -> x.hit(0, asked));
        }
        check.due("hit(0, MAX)", 2, () -> x.hit(0, MAX));
        check.due("hit(2, MAX)", 0, () -> x.hit(2, MAX));
        TabText thin = Check.text("|||a|b");
        thin.setSpacing(0, 0);
        check.due("hit of cells without a width", 3, () -> thin.hit(0, 0));
        check.due("hit behind them", 4, () -> thin.hit(0, 1));
        for (int line : NO_LINES) {
            check.dueRefused(x, "IndexOutOfBoundsException", "hit of line " + line, () -> x.hit(line, 0));
        }
        check.dueRefused(x, "IndexOutOfBoundsException", "hit of column -1", () -> x.hit(0, -1));
    }

    private static void find() {
        TabText x = Check.text("a|b|a/b|a/ab||a");
        Check.input(x, "a");
        check.due("find(0, 0)", 2, () -> x.find(0, 0));
        check.due("find(0, 2)", 101, () -> x.find(0, 2));
        check.due("find(1, 1)", 202, () -> x.find(1, 1));
        check.due("find(2, 2)", -1, () -> x.find(2, 2));
        check.due("find leaves the buffer", 1, x::clearInput);
        check.due("find of an empty cell", 201, () -> x.find(0, 0));
        check.due("no more empty cells", -1, () -> x.find(2, 1));
        Check.input(x, "b");
        check.due("find of a first cell", 100, () -> x.find(0, 1));
        x.clearInput();
        Check.input(x, "A");
        check.due("find of another letter", -1, () -> x.find(0, 0));
        Check.input(x, "|");
        check.dueRefused(x, "IllegalStateException", "find of a line", () -> x.find(0, 0));
        for (int[] p : new int[][] {{-1, 0}, {3, 0}, {0, -1}, {0, 3}, {1, 2}, {MAX, MAX}, {MIN, MIN}}) {
            check.dueRefused(x, "IndexOutOfBoundsException", "find behind no cell", () -> x.find(p[0], p[1]));
        }
    }
}
