import com.sun.management.ThreadMXBean;
import java.lang.management.ManagementFactory;

/** The room of a run: what the dearest calls make stays small, and calls that keep nothing make nothing. */
public final class RoomTest {
    private static final ThreadMXBean THREADS = (ThreadMXBean) ManagementFactory.getThreadMXBean();
    private static final int ROUNDS = 20;

    public static void main(String[] args) {
        newObject();
        fullObject();
        Check.end();
    }

    private static long made() {
        return THREADS.getThreadAllocatedBytes(Thread.currentThread().getId());
    }

    private static void newObject() {
        new BergPatrol();
        long before = made();
        BergPatrol p = new BergPatrol();
        long bytes = made() - before;
        Check.same("a new object is of some 3,500 numbers", bytes < 16000, true);
        Check.same("bytes of its tape", p.count(6), 0);
    }

    private static BergPatrol full() {
        BergPatrol p = new BergPatrol();
        for (int b = 0; b < 10; b++) {
            p.tell(28 * b, 1000);
        }
        p.step(10);
        for (int w = 0; w < 20; w++) {
            p.warn();
            Tapes.read(p, Tapes.ring(40));
        }
        return p;
    }

    private static void fullObject() {
        full();
        made();
        long before = made();
        BergPatrol p = full();
        // Ten bergs of 280 numbers, forty warnings of at most 94, the helper's texts.
        Check.same("a full object", made() - before < 150000, true);
        before = made();
        long sum = 0;
        for (int i = 0; i < ROUNDS; i++) {
            sum += p.way(20, 39, 1000) + p.limit() + p.corner(i % 9, true) + p.flight() + p.count(i % 9);
            sum += p.look(i % 280, 1) + p.write(i % 40) + p.step(i % 3) + p.warn();
        }
        long bytes = made() - before;
        Check.same("calls that keep nothing make nothing (" + sum + "): " + bytes, bytes < 2048, true);
    }
}
