import java.util.concurrent.Callable;

/** The four examples of the document, call by call. */
final class ExamplesTest {
    private static final Check check = new Check();

    public static void main(String[] args) {
        widerBlock();
        pointsBelowEachOther();
        tabAndLineEnd();
        sortedAndRemoved();
        check.end("ExamplesTest");
    }

    private static void widerBlock() {
        TabText x = new TabText();
        appendAll(x, "a|b/cc|d");
        check.due("1 load()", 2, x::load);
        check.due("1 cell(0, 1, 2)", 4, () -> x.cell(0, 1, 2));
        check.due("1 block(0, 3)", 4, () -> x.block(0, 3));
        check.due("1 type(1, 0, 2, 99)", 3, () -> x.type(1, 0, 2, 99));
        check.due("1 cell(0, 1, 2)", 5, () -> x.cell(0, 1, 2));
        check.due("1 undo()", 1, x::undo);
        check.due("1 cell(0, 1, 2)", 4, () -> x.cell(0, 1, 2));
    }

    private static void pointsBelowEachOther() {
        TabText x = new TabText();
        appendAll(x, "1.5|/22|");
        check.due("2 load()", 2, x::load);
        check.due("2 block(0, 4)", 3, () -> x.block(0, 4));
        check.due("2 cell(0, 0, 3)", 1, () -> x.cell(0, 0, 3));
        check.due("2 cell(1, 0, 3)", 0, () -> x.cell(1, 0, 3));
        check.due("2 sum(0)", 235000L, () -> x.sum(0));
        check.due("2 mean(0)", 11.75, () -> x.mean(0));
        check.due("2 shown(1, 1)", 50, () -> x.shown(1, 1));
    }

    private static void tabAndLineEnd() {
        TabText x = new TabText();
        check.due("3 type(0, 0, 0, 9)", 2, () -> x.type(0, 0, 0, 9));
        check.due("3 type(0, 1, 0, 10)", 2, () -> x.type(0, 1, 0, 10));
        check.due("3 count(3)", 1, () -> x.count(3));
        check.due("3 erase(0, 1, 0)", 10, () -> x.erase(0, 1, 0));
        check.dueState("3 erase(0, 1, 0)", () -> x.erase(0, 1, 0));
        check.due("3 count(1)", 2, () -> x.count(1));
        check.due("3 cell(0, 0, 4)", 0, () -> x.cell(0, 0, 4));
        check.due("3 cell(0, 1, 4)", -1, () -> x.cell(0, 1, 4));
        check.dueState("3 redo()", x::redo);
    }

    private static void sortedAndRemoved() {
        TabText x = new TabText();
        appendAll(x, "x|/y|");
        check.due("4 load()", 2, x::load);
        check.due("4 sort(0, 0, true)", 2, () -> x.sort(0, 0, true));
        check.due("4 letter(0, 0, 0)", 121, () -> x.letter(0, 0, 0));
        check.due("4 touched(0)", 1, () -> x.touched(0));
        check.due("4 removeColumn(0)", 2, () -> x.removeColumn(0));
        check.due("4 count(3)", 0, () -> x.count(3));
        check.dueOutOfBounds("4 block(0, 0)", () -> x.block(0, 0));
    }

    private static void appendAll(TabText x, String characters) {
        for (int i = 0; i < characters.length(); i++) {
            int code = characters.charAt(i);
            Callable<?> asks = () -> x.append(code);
            check.due("append(" + code + ")", i + 1, asks);
        }
    }
}
