import com.sun.management.ThreadMXBean;
import java.lang.management.ManagementFactory;

/** Behind its first calls an object makes nothing more: the dearest calls, again and again, need no room of their own. */
public final class RoomTest {
    private static final long MOST_BYTES_OF_ONE_OBJECT = 150_000;
    private static final long MOST_BYTES_LATER = 2_000;

    private static void dearCalls(FerryDeck x) {
        x.keep(0);
        x.keep(1);
        x.least();
        x.stow();
        x.bound();
        x.check();
        x.sail();
        x.arrive();
        x.back(0);
        x.back(1);
    }

    private static FerryDeck prepared() {
        FerryDeck x = new FerryDeck();
        for (int i = 0; i < 3; i++) x.lane(i, 40, 100, i - 1, 3);
        x.day(12, 1_000_000);
        for (int i = 0; i < 6; i++) x.load(1 + i % 3, 10, 80, i, 0);
        for (int i = 0; i < 6; i++) x.step(1, i, i % 3, 0);
        x.step(3, 0, 0, 0);
        return x;
    }

    public static void main(String[] args) {
        ThreadMXBean threads = (ThreadMXBean) ManagementFactory.getThreadMXBean();
        dearCalls(prepared());
        long start = threads.getCurrentThreadAllocatedBytes();
        FerryDeck x = prepared();
        dearCalls(x);
        long first = threads.getCurrentThreadAllocatedBytes() - start;
        start = threads.getCurrentThreadAllocatedBytes();
        for (int i = 0; i < 45; i++) dearCalls(x);
        long later = threads.getCurrentThreadAllocatedBytes() - start;
        System.out.println("bytes for an object and its first calls: " + first + ", for 450 calls more: " + later);
        if (first > MOST_BYTES_OF_ONE_OBJECT || later > MOST_BYTES_LATER) System.exit(1);
    }
}
