/** Promises 1 to 5: a new object, append, clearInput, firstError, load. */
final class InputTest {
    private static final Check check = new Check();

    public static void main(String[] args) {
        newObject();
        append();
        clearInput();
        cells();
        lines();
        texts();
        load();
        check.end("InputTest");
    }

    private static void newObject() {
        TabText x = new TabText();
        int[] counts = {1, 1, 0, 0, 0, 1, 0, 0, 0};
        for (int what = 0; what < counts.length; what++) {
            int asked = what;
            check.due("new count(" + what + ")", counts[what], () -> x.count(asked));
        }
        check.due("new line(0, 0)", 1, () -> x.line(0, 0));
        check.due("new cell(0, 0, 0)", 0, () -> x.cell(0, 0, 0));
        check.due("new clearInput()", 0, x::clearInput);
        check.due("new NONE", -1, () -> TabText.NONE);
    }

    private static void append() {
        TabText x = new TabText();
        check.due("append(32)", 1, () -> x.append(32));
        check.due("append(126)", 2, () -> x.append(126));
        for (int code : new int[] {31, 127, -1, 0, 9, 10, 255, Integer.MAX_VALUE, Integer.MIN_VALUE}) {
            check.dueRefused(x, "IllegalArgumentException", "append(" + code + ")", () -> x.append(code));
        }
        for (int i = 3; i <= 120; i++) {
            check.due("append(97) " + i, i, () -> x.append(97));
        }
        check.dueRefused(x, "IllegalStateException", "append(97) to 120", () -> x.append(97));
        check.dueRefused(x, "IllegalArgumentException", "append(31) to 120", () -> x.append(31));
    }

    private static void clearInput() {
        TabText x = Check.input(new TabText(), "abc");
        check.due("clearInput()", 3, x::clearInput);
        check.due("clearInput() again", 0, x::clearInput);
        check.due("append after clearInput", 1, () -> x.append('z'));
        check.due("clearInput is no edit", 0, () -> x.count(7));
        check.due("the character behind clearInput", 0, () -> x.setCell(0, 0));
        check.due("the text behind clearInput", "z", () -> Check.written(x));
    }

    private static void error(String buffer, int kind, int want) {
        TabText x = Check.input(new TabText(), buffer);
        check.due("firstError(" + kind + ") of \"" + buffer + "\"", want, () -> x.firstError(kind));
        check.due("firstError leaves the buffer", buffer.length(), x::clearInput);
    }

    private static void cells() {
        error("", 0, 0);
        error("azAZ09 .,-+:%()", 0, 15);
        error(Check.times("a", 16), 0, 16);
        error(Check.times("a", 17), 0, 16);
        error("a|b", 0, 1);
        error("ab/c", 0, 2);
        for (char c = 32; c < 127; c++) {
            boolean sign = Character.isLetterOrDigit(c) || " .,-+:%()".indexOf(c) >= 0;
            error("a" + c, 0, sign ? 2 : 1);
            error("a" + c, 1, sign || c == '|' ? 2 : 1);
            error("a" + c, 2, sign || c == '|' || c == '/' ? 2 : 1);
        }
        TabText x = new TabText();
        for (int kind : new int[] {-1, 3, Integer.MAX_VALUE, Integer.MIN_VALUE}) {
            check.dueRefused(x, "IllegalArgumentException", "firstError(" + kind + ")", () -> x.firstError(kind));
        }
    }

    private static void lines() {
        error("", 1, 0);
        error("|||||||", 1, 7);
        error("||||||||", 1, 7);
        error("a|b|c|d|e|f|g|h", 1, 15);
        error("a|b|c|d|e|f|g|h|", 1, 15);
        error("a|b/c", 1, 3);
        error(Check.times("a", 16) + "|" + Check.times("b", 16) + "|" + Check.times("c", 17), 1, 50);
        error("|!", 1, 1);
    }

    private static void texts() {
        error("", 2, 0);
        error("a|b/c|d", 2, 7);
        error(Check.times("/", 23), 2, 23);
        error(Check.times("/", 24), 2, 23);
        error(Check.times("a/", 24), 2, 47);
        error("|||||||/|||||||/|||||||", 2, 23);
        error("|||||||/||||||||", 2, 15);
        error(Check.times("a", 16) + "/" + Check.times("a", 17), 2, 33);
        error("a/b*/c", 2, 3);
    }

    private static void load() {
        TabText x = Check.text("a|b/cc|d");
        check.due("load", "a|b/cc|d", () -> Check.written(x));
        check.due("load clears the buffer", 0, x::clearInput);
        check.due("load is an edit", 1, () -> x.count(7));
        check.due("load() of nothing", 1, x::load);
        check.due("load of nothing", "", () -> Check.written(x));
        check.due("cells after load of nothing", 1, () -> x.count(1));
        Check.input(x, "/|/");
        check.due("load() of empty cells", 3, x::load);
        check.due("load of empty cells", "/|/", () -> Check.written(x));
        Check.input(x, "a/b&");
        check.dueRefused(x, "IllegalStateException", "load() of an error", x::load);
        check.due("the buffer stays", 4, x::clearInput);
        Check.input(x, Check.times("/", 23));
        check.due("load() of 24 lines", 24, x::load);
        Check.input(x, Check.times("/", 24));
        check.dueRefused(x, "IllegalStateException", "load() of 25 lines", x::load);
    }
}
