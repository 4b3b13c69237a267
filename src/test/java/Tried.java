import java.lang.reflect.InvocationTargetException;
import java.lang.reflect.Method;
import java.util.ArrayList;
import java.util.List;

/**
 * An object and the calls that it has had, each written as in the document's examples, so that a second
 * one can be brought to the same state.
 */
final class Tried {
    private static final int MOST_CALLS = 512;

    private final Document document;
    private final TabText object = new TabText();
    private final List<String> calls = new ArrayList<>();

    Tried(Document document) {
        this.document = document;
    }

    /** Calls that must not throw, whatever they answer. */
    Tried then(String written) {
        for (String call : written.split("; ")) {
            String got = make(call);
            if (got.startsWith("throws.")) {
                document.complain(call + " answered " + got + ", but was to be made");
            }
        }
        return this;
    }

    Tried input(String characters) {
        for (int i = 0; i < characters.length(); i++) {
            then("append(" + (int) characters.charAt(i) + ")");
        }
        return this;
    }

    Tried due(Object want, String call) {
        document.compare(call, want, make(call));
        return this;
    }

    /** Calls that all answer the same. */
    Tried allDue(Object want, String... written) {
        for (String call : written) {
            due(want, call);
        }
        return this;
    }

    /** The whole text, written as for the input buffer. */
    Tried written(String want) {
        document.compare("the text", want, Check.written(copy()));
        return this;
    }

    /** The lines as they are shown, each one up to its shown length. */
    Tried shownAs(String... lines) {
        TabText copy = copy();
        for (int line = 0; line < lines.length; line++) {
            document.compare("line " + line + " as shown", lines[line], Check.shownLine(copy, line));
        }
        return this;
    }

    /** A call of which no later call can tell that it was made. */
    Tried keeps(Object want, String call) {
        List<String> without = wholeState(copy());
        due(want, call);
        document.compare(call + " changes nothing, which", without, wholeState(copy()));
        return this;
    }

    /** Calls that throw, and of which no later call can tell that they were made. */
    Tried refused(String exception, String... written) {
        for (String call : written) {
            keeps("throws." + exception, call);
            document.wasRefused(nameOf(call), exception);
        }
        return this;
    }

    /**
     * Two exceptions apply to a call, and the first one is thrown. That the other one applies, too, is seen
     * by a second call, from which only the cause of the first one is taken.
     */
    Tried refusedFirst(String first, String call, String second, String callWithoutFirst) {
        refused(first, call);
        refused(second, callWithoutFirst);
        document.cameFirst(nameOf(call), first, second);
        if (!nameOf(call).equals(nameOf(callWithoutFirst))) {
            document.complain(call + " and " + callWithoutFirst + " are different calls");
        }
        return this;
    }

    static long digestAfter(String text, String... written) {
        TabText x = Check.text(text);
        for (String call : written) {
            answer(x, call);
        }
        return x.digest();
    }

    private String make(String call) {
        calls.add(call);
        if (calls.size() > MOST_CALLS) {
            document.complain(call + " is behind the last call of which something is promised");
        }
        return answer(object, call);
    }

    private TabText copy() {
        TabText copy = new TabText();
        for (String call : calls) {
            answer(copy, call);
        }
        return copy;
    }

    /** What can be seen of an object, with all texts that it keeps. */
    private static List<String> wholeState(TabText x) {
        List<String> states = new ArrayList<>();
        states.add(String.valueOf(x.digest()));
        for (int left = x.count(7); left > 0; left--) {
            states.add(x.undo() + " " + x.digest());
        }
        for (int left = x.count(8); left > 0; left--) {
            states.add(x.redo() + " " + x.digest());
        }
        return states;
    }

    private static String nameOf(String call) {
        return call.substring(0, call.indexOf('('));
    }

    /** What a written call answers, "throws." with its name for an exception. */
    static String answer(TabText x, String call) {
        Method method = methodOf(nameOf(call));
        String list = call.substring(call.indexOf('(') + 1, call.lastIndexOf(')'));
        String[] parts = list.isEmpty() ? new String[0] : list.split(", ");
        Object[] arguments = new Object[parts.length];
        for (int i = 0; i < parts.length; i++) {
            arguments[i] = argument(parts[i]);
        }
        try {
            return String.valueOf(method.invoke(x, arguments));
        } catch (InvocationTargetException e) {
            return "throws." + e.getCause().getClass().getSimpleName();
        } catch (IllegalAccessException e) {
            throw new IllegalStateException(e);
        }
    }

    private static Method methodOf(String name) {
        for (Method method : TabText.class.getMethods()) {
            if (method.getName().equals(name)) {
                return method;
            }
        }
        throw new IllegalArgumentException("no call " + name);
    }

    private static Object argument(String written) {
        switch (written) {
            case "true":
                return true;
            case "false":
                return false;
            case "MAX":
                return Integer.MAX_VALUE;
            case "MIN":
                return Integer.MIN_VALUE;
            default:
                boolean sign = written.length() == 3 && written.charAt(0) == '\'';
                return sign ? written.charAt(1) : Integer.parseInt(written);
        }
    }
}
