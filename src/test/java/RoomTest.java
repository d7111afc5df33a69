import java.lang.management.ManagementFactory;

/**
 * All calls of a run live in one room: a new object takes little of it, and no
 * call takes any.
 */
public final class RoomTest {
    private static final long MOST_OF_OBJECT = 100000;
    /** The machine may take a little itself while it measures; 512 calls with an object each take more. */
    private static final long MOST_OF_CALLS = 8000;

    private static com.sun.management.ThreadMXBean measure;

    public static void main(String[] args) {
        if (!(ManagementFactory.getThreadMXBean() instanceof com.sun.management.ThreadMXBean)) {
            System.out.println("this machine can't measure it");
            return;
        }
        measure = (com.sun.management.ThreadMXBean) ManagementFactory.getThreadMXBean();
        // what is loaded with the first use counts for nobody
        callsOf(new DiagonalTexts());
        taken();
        long before = taken();
        DiagonalTexts x = new DiagonalTexts();
        long made = taken() - before;
        before = taken();
        callsOf(x);
        long called = taken() - before;
        System.out.println("an object takes " + made + " bytes, 512 calls of it " + called);
        if (made > MOST_OF_OBJECT || called > MOST_OF_CALLS) {
            System.out.println("that is too much");
            System.exit(1);
        }
    }

    private static long taken() {
        return measure.getThreadAllocatedBytes(Thread.currentThread().getId());
    }

    private static void callsOf(DiagonalTexts x) {
        int calls = 0;
        for (int i = 0; i < 28; i++) {
            x.append(0, i * 5 % 8);
            x.append(1, i * 3 % 7);
            calls += 2;
        }
        while (calls < 512 - 24) {
            calls += 24;
            for (int what = 0; what <= 8; what++) {
                x.count(what);
            }
            x.reach(20, 0);
            x.distance();
            x.stepOf(5, 1);
            x.textAt(7);
            x.scripts();
            x.hunkOf(0, 1);
            x.movedOf(0, 0);
            x.bestChange(2);
            x.type('=');
            x.fault(0);
            x.apply();
            x.cut(0, 3, 1);
            x.change(1, 4, 2);
            x.exchange();
            x.set(0, 50);
        }
        x.undo();
        x.clearText();
        x.apply();
    }
}
