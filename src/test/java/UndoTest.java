/** Promises 16 and 17: undo, redo. */
final class UndoTest {
    private static final Check check = new Check();

    public static void main(String[] args) {
        nothingKept();
        backAndForth();
        tenAreKept();
        roundTheRing();
        editForgetsRedo();
        settingsStay();
        check.end("UndoTest");
    }

    private static void nothingKept() {
        TabText x = new TabText();
        check.dueRefused(x, "IllegalStateException", "undo() at first", x::undo);
        check.dueRefused(x, "IllegalStateException", "redo() at first", x::redo);
    }

    private static void backAndForth() {
        TabText x = new TabText();
        x.type(0, 0, 0, 'a');
        x.type(0, 0, 1, 'b');
        x.type(0, 0, 2, 10);
        check.due("undo()", 2, x::undo);
        check.due("after one undo", "ab", () -> Check.written(x));
        check.due("undo() again", 1, x::undo);
        check.due("after two", "a", () -> Check.written(x));
        check.due("count(7)", 1, () -> x.count(7));
        check.due("count(8)", 2, () -> x.count(8));
        check.due("redo()", 1, x::redo);
        check.due("after redo", "ab", () -> Check.written(x));
        check.due("redo() again", 0, x::redo);
        check.due("after both", "ab/", () -> Check.written(x));
        check.dueRefused(x, "IllegalStateException", "redo() of no more", x::redo);
        check.due("undo() of redo", 2, x::undo);
        check.due("after undo of redo", "ab", () -> Check.written(x));
    }

    private static void tenAreKept() {
        TabText x = new TabText();
        for (int i = 0; i < 14; i++) {
            x.type(0, 0, i, 'a' + i);
            int kept = Math.min(i + 1, 10);
            check.due("kept after " + (i + 1), kept, () -> x.count(7));
        }
        for (int i = 13; i >= 4; i--) {
            String want = "abcdefghijklmn".substring(0, i);
            int left = i - 4;
            check.due("undo() to " + want, left, x::undo);
            check.due("undone to " + want, want, () -> Check.written(x));
        }
        check.dueRefused(x, "IllegalStateException", "undo() of an eleventh", x::undo);
        check.due("ten for redo", 10, () -> x.count(8));
        for (int i = 5; i <= 14; i++) {
            String want = "abcdefghijklmn".substring(0, i);
            int left = 14 - i;
            check.due("redo() to " + want, left, x::redo);
            check.due("redone to " + want, want, () -> Check.written(x));
        }
        check.dueRefused(x, "IllegalStateException", "redo() of an eleventh", x::redo);
    }

    private static void roundTheRing() {
        TabText x = new TabText();
        for (int round = 0; round < 30; round++) {
            int sign = 'a' + round % 26;
            String want = Check.written(x);
            check.due("one more", 1, () -> x.type(0, 0, 0, sign));
            x.undo();
            check.due("undone", want, () -> Check.written(x));
            x.redo();
            x.erase(0, 0, 0);
            check.due("erased", "", () -> Check.written(x));
        }
    }

    private static void editForgetsRedo() {
        TabText x = new TabText();
        x.type(0, 0, 0, 'a');
        x.type(0, 0, 0, 'b');
        x.undo();
        x.moveLine(0, 0);
        check.due("an edit that changes nothing forgets redo", 0, () -> x.count(8));
        check.due("and is kept", 2, () -> x.count(7));
        check.dueRefused(x, "IllegalStateException", "redo() after an edit", x::redo);
        x.undo();
        Check.input(x, "!");
        check.dueRefused(x, "IllegalStateException", "a refused edit", x::load);
        check.due("a refused edit keeps redo", 1, () -> x.count(8));
        x.append('a');
        x.clearInput();
        x.setAlignment(0, 1);
        x.setSpacing(0, 1);
        x.ifTyped(0, 0, 0, 9);
        check.due("what is no edit keeps redo", 1, () -> x.count(8));
    }

    private static void settingsStay() {
        TabText x = Check.text("a|b");
        x.setAlignment(0, 1);
        x.setSpacing(1, 7);
        Check.input(x, "xyz");
        check.due("undo of load", 0, x::undo);
        check.due("the alignment stays", 1, () -> x.setAlignment(0, 0));
        check.due("the spacing stays", 7, () -> x.setSpacing(1, 0));
        check.due("the buffer stays", 3, x::clearInput);
    }
}
