import com.sun.management.ThreadMXBean;
import java.lang.management.ManagementFactory;

/** All calls of a run share one room of memory: an object must not make rows with every call. */
final class RoomTest {
    // An int takes four bytes: some 10,000 elements for a new object, some 50,000 for one in use.
    private static final long MOST_FOR_NEW = 40_000;
    private static final long MOST_IN_USE = 200_000;
    private static final ThreadMXBean threads = (ThreadMXBean) ManagementFactory.getThreadMXBean();
    private static int wrong = 0;

    public static void main(String[] args) {
        use(new TabText());
        long before = allocated();
        TabText x = new TabText();
        atMost("a new object", allocated() - before, MOST_FOR_NEW);
        before = allocated();
        use(x);
        atMost("512 calls", allocated() - before, MOST_IN_USE);
        System.out.println("RoomTest: " + wrong + " wrong");
        if (wrong != 0) {
            System.exit(1);
        }
    }

    private static long allocated() {
        return threads.getThreadAllocatedBytes(Thread.currentThread().getId());
    }

    private static void atMost(String what, long bytes, long most) {
        System.out.println(what + ": " + bytes + " bytes");
        if (bytes > most) {
            wrong++;
            System.out.println("that is more than " + most);
        }
    }

    private static long use(TabText x) {
        long all = 0;
        for (int i = 0; i < 32; i++) {
            all += x.append('a' + i % 26) + x.append('|') + x.insertLine(0) + x.ifTyped(0, 0, 1, 9);
            all += x.sort(0, 0, i % 2 == 0) + x.moveLine(0, x.count(0) - 1) + x.type(0, 0, 0, 'b');
            all += x.erase(0, 0, 0) + x.retab(0, 1) + x.insertColumn(0) + x.removeColumn(0) + x.undo();
            all += x.redo() + x.digest() + x.removeLine(0) + x.load();
        }
        return all;
    }
}
