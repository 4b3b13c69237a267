/** Promises 6 to 8: type, erase, setCell. */
final class SignEditTest {
    private static final Check check = new Check();
    private static final int MAX = Integer.MAX_VALUE;
    private static final int MIN = Integer.MIN_VALUE;

    public static void main(String[] args) {
        typeSigns();
        typeTabs();
        typeLineEnds();
        typeRefused();
        eraseSigns();
        eraseTabs();
        eraseLineEnds();
        eraseRefused();
        setCell();
        check.end("SignEditTest");
    }

    private static void typeSigns() {
        TabText x = Check.text("ab|cd/ef");
        check.due("type in the middle", 3, () -> x.type(0, 0, 1, 'X'));
        check.due("type at the beginning", 3, () -> x.type(0, 1, 0, '%'));
        check.due("type at the end", 3, () -> x.type(1, 0, 2, ' '));
        check.due("typed", "aXb|%cd/ef ", () -> Check.written(x));
        check.due("type is an edit", 4, () -> x.count(7));
        for (int code = -2; code < 300; code++) {
            boolean sign = code < 128 && Character.isLetterOrDigit(code) || " .,-+:%()".indexOf(code) >= 0;
            int asked = code;
            TabText y = new TabText();
            Object want = sign ? 1 : code == 9 || code == 10 ? 2 : "throws.IllegalArgumentException";
            check.due("type(0, 0, 0, " + code + ")", want, () -> y.type(0, 0, 0, asked));
        }
    }

    private static void typeTabs() {
        TabText x = Check.text("abcd|e/f");
        check.due("a tab in the middle", 3, () -> x.type(0, 0, 1, 9));
        check.due("a tab at the beginning", 4, () -> x.type(0, 0, 0, 9));
        check.due("a tab at the end", 5, () -> x.type(0, 3, 1, 9));
        check.due("a tab in another line", 2, () -> x.type(1, 0, 1, 9));
        check.due("tabs", "|a|bcd|e|/f|", () -> Check.written(x));
    }

    private static void typeLineEnds() {
        TabText x = Check.text("abcd|ef|g/h");
        check.due("a line end in the middle", 3, () -> x.type(0, 1, 1, 10));
        check.due("line end", "abcd|e/f|g/h", () -> Check.written(x));
        check.due("a line end at the beginning", 4, () -> x.type(0, 0, 0, 10));
        check.due("a line end at the end", 5, () -> x.type(3, 0, 1, 10));
        check.due("line ends", "/abcd|e/f|g/h/", () -> Check.written(x));
        TabText full = Check.text("a|b|c|d|e|f|g|h");
        check.due("a line end in a full line", 2, () -> full.type(0, 3, 0, 10));
        check.due("a divided full line", "a|b|c|/d|e|f|g|h", () -> Check.written(full));
        TabText wide = Check.text(Check.times("a", 16));
        check.due("a tab in a full cell", 2, () -> wide.type(0, 0, 8, 9));
        check.due("a divided full cell", "aaaaaaaa|aaaaaaaa", () -> Check.written(wide));
    }

    private static void typeRefused() {
        TabText x = Check.text("ab|cd/ef");
        int[][] places = {
            {-1, 0, 0}, {2, 0, 0}, {MAX, 0, 0}, {MIN, 0, 0}, {0, -1, 0}, {0, 2, 0}, {1, 1, 0}, {0, MAX, 0},
            {0, MIN, 0}, {0, 0, -1}, {0, 0, 3}, {0, 0, MAX}, {0, 0, MIN}
        };
        for (int[] p : places) {
            for (int code : new int[] {'a', 9, 10, '!'}) {
                check.dueRefused(x, "IndexOutOfBoundsException", "type at no place", () -> x.type(p[0], p[1], p[2], code));
            }
        }
        for (int code : new int[] {'!', '|', '/', 0, 8, 11, 13, 31, 127, 128, -1, MAX, MIN}) {
            check.dueRefused(x, "IllegalArgumentException", "type " + code, () -> x.type(0, 0, 0, code));
        }
        TabText wide = Check.text(Check.times("a", 16));
        check.dueRefused(wide, "IllegalStateException", "the 17th sign", () -> wide.type(0, 0, 3, 'b'));
        check.dueRefused(wide, "IllegalArgumentException", "no sign", () -> wide.type(0, 0, 3, '!'));
        TabText full = Check.text("|||||||");
        check.dueRefused(full, "IllegalStateException", "the eighth tab", () -> full.type(0, 0, 0, 9));
        TabText high = Check.text(Check.times("/", 23));
        check.dueRefused(high, "IllegalStateException", "the 24th line end", () -> high.type(0, 0, 0, 10));
        check.due("a sign where lines are full", 1, () -> high.type(23, 0, 0, 'a'));
        check.due("a tab where lines are full", 2, () -> high.type(23, 0, 0, 9));
    }

    private static void eraseSigns() {
        TabText x = Check.text("abc|d");
        check.due("erase in the middle", (int) 'b', () -> x.erase(0, 0, 1));
        check.due("erase at the beginning", (int) 'a', () -> x.erase(0, 0, 0));
        check.due("erase in the last cell", (int) 'd', () -> x.erase(0, 1, 0));
        check.due("erased", "c|", () -> Check.written(x));
        check.due("erase is an edit", 4, () -> x.count(7));
    }

    private static void eraseTabs() {
        TabText x = Check.text("ab|cd|e/f");
        check.due("erase a tab", 9, () -> x.erase(0, 0, 2));
        check.due("joined cells", "abcd|e/f", () -> Check.written(x));
        TabText fits = Check.text(Check.times("a", 10) + "|" + Check.times("b", 6));
        check.due("16 signs are joined", 9, () -> fits.erase(0, 0, 10));
        TabText wide = Check.text(Check.times("a", 10) + "|" + Check.times("b", 7));
        check.dueRefused(wide, "IllegalStateException", "17 signs are not", () -> wide.erase(0, 0, 10));
    }

    private static void eraseLineEnds() {
        TabText x = Check.text("ab|cd/ef|g|h/i");
        check.due("erase a line end", 10, () -> x.erase(0, 1, 2));
        check.due("joined lines", "ab|cdef|g|h/i", () -> Check.written(x));
        TabText fits = Check.text("a|b|c|d/e|f|g|h|i");
        check.due("8 cells are joined", 10, () -> fits.erase(0, 3, 1));
        check.due("8 cells", "a|b|c|de|f|g|h|i", () -> Check.written(fits));
        TabText full = Check.text("a|b|c|d/e|f|g|h|i|j");
        check.dueRefused(full, "IllegalStateException", "9 cells are not", () -> full.erase(0, 3, 1));
        TabText wide = Check.text("a|" + Check.times("b", 16) + "/c");
        check.dueRefused(wide, "IllegalStateException", "17 signs in joined lines", () -> wide.erase(0, 1, 16));
        TabText exact = Check.text("a|" + Check.times("b", 16) + "/|c");
        check.due("16 signs in joined lines", 10, () -> exact.erase(0, 1, 16));
    }

    private static void eraseRefused() {
        TabText x = Check.text("ab|cd/ef");
        int[][] places = {
            {-1, 0, 0}, {2, 0, 0}, {MAX, 0, 0}, {MIN, 0, 0}, {0, -1, 0}, {0, 2, 0}, {1, 1, 0}, {0, MAX, 0},
            {0, 0, -1}, {0, 0, 3}, {1, 0, 3}, {0, 0, MAX}, {0, 0, MIN}
        };
        for (int[] p : places) {
            check.dueRefused(x, "IndexOutOfBoundsException", "erase at no place", () -> x.erase(p[0], p[1], p[2]));
        }
        check.dueRefused(x, "IllegalStateException", "erase at the end", () -> x.erase(1, 0, 2));
        TabText empty = new TabText();
        check.dueRefused(empty, "IllegalStateException", "erase of nothing", () -> empty.erase(0, 0, 0));
    }

    private static void setCell() {
        TabText x = Check.text("abc|d/e");
        Check.input(x, "12.5 (%)");
        check.due("setCell", 3, () -> x.setCell(0, 0));
        check.due("the cell is set", "12.5 (%)|d/e", () -> Check.written(x));
        check.due("setCell clears the buffer", 0, x::clearInput);
        check.due("setCell is an edit", 2, () -> x.count(7));
        check.due("setCell of nothing", 1, () -> x.setCell(0, 1));
        Check.input(x, Check.times("z", 16));
        check.due("setCell of 16 signs", 1, () -> x.setCell(1, 0));
        check.due("the cells are set", "12.5 (%)|/" + Check.times("z", 16), () -> Check.written(x));
        Check.input(x, "a|b");
        check.dueRefused(x, "IllegalStateException", "setCell of a line", () -> x.setCell(0, 0));
        for (int[] p : new int[][] {{-1, 0}, {2, 0}, {0, -1}, {0, 2}, {1, 1}, {MAX, MAX}, {MIN, MIN}}) {
            check.dueRefused(x, "IndexOutOfBoundsException", "setCell of no cell", () -> x.setCell(p[0], p[1]));
        }
        check.due("the buffer stays", 3, x::clearInput);
        Check.input(x, Check.times("z", 17));
        check.dueRefused(x, "IllegalStateException", "setCell of 17 signs", () -> x.setCell(0, 0));
    }
}
