import java.util.concurrent.Callable;

/** What the tests share: making texts, and comparing answers with those that are due. */
final class Check {
    private int asked = 0;
    private int wrong = 0;

    void due(String call, Object want, Callable<?> asks) {
        asked++;
        String got = answer(asks);
        if (!got.equals(String.valueOf(want))) {
            wrong++;
            System.out.println(call + " answered " + got + ", due is " + want);
        }
    }

    void dueOutOfBounds(String call, Callable<?> asks) {
        due(call, "throws.IndexOutOfBoundsException", asks);
    }

    void dueArgument(String call, Callable<?> asks) {
        due(call, "throws.IllegalArgumentException", asks);
    }

    void dueState(String call, Callable<?> asks) {
        due(call, "throws.IllegalStateException", asks);
    }

    /** A call that throws must change nothing. */
    void dueRefused(TabText x, String exception, String call, Callable<?> asks) {
        long before = x.digest();
        due(call, "throws." + exception, asks);
        due(call + " changes nothing", before, x::digest);
    }

    void end(String name) {
        System.out.println(name + ": " + asked + " answers, " + wrong + " of them wrong");
        if (wrong != 0 || asked == 0) {
            System.exit(1);
        }
    }

    static String answer(Callable<?> asks) {
        try {
            return String.valueOf(asks.call());
        } catch (Exception e) {
            return "throws." + e.getClass().getSimpleName();
        }
    }

    static TabText input(TabText x, String characters) {
        for (int i = 0; i < characters.length(); i++) {
            x.append(characters.charAt(i));
        }
        return x;
    }

    /** A new object with a text that is written as for the input buffer. */
    static TabText text(String characters) {
        TabText x = input(new TabText(), characters);
        x.load();
        return x;
    }

    /** The whole text, written as for the input buffer. */
    static String written(TabText x) {
        StringBuilder all = new StringBuilder();
        for (int line = 0; line < x.count(0); line++) {
            all.append(line > 0 ? "/" : "");
            for (int cell = 0; cell < x.line(line, 0); cell++) {
                all.append(cell > 0 ? "|" : "");
                for (int i = 0; i < x.cell(line, cell, 0); i++) {
                    all.append((char) x.letter(line, cell, i));
                }
            }
        }
        return all.toString();
    }

    /** A line as it is shown. */
    static String shownLine(TabText x, int line) {
        StringBuilder all = new StringBuilder();
        for (int column = 0; column < x.line(line, 1); column++) {
            all.append((char) x.shown(line, column));
        }
        return all.toString();
    }

    static String times(String part, int times) {
        return part.repeat(times);
    }
}
