import com.sun.management.ThreadMXBean;
import java.lang.management.ManagementFactory;

/** All calls of a run live in one room: the dearest calls make no objects, and a new object is small. */
public final class RoomTest {
    private static final Due due = new Due();
    private static final ThreadMXBean THREADS = (ThreadMXBean) ManagementFactory.getThreadMXBean();

    public static void main(String[] args) {
        // What loading the classes takes is not the object's own.
        askAll(new DeckBalance());
        long before = taken();
        long nothing = taken() - before;
        before = taken();
        DeckBalance x = new DeckBalance();
        due.is("a new object takes under 20,000 bytes", taken() - before - nothing < 20_000 ? 1 : 0, 1);
        for (int c = 0; c < 12; c++) {
            x.card(c % 3, c % 6, (c * 7) % 10);
        }
        for (int d = 0; d < 5; d++) {
            x.deck();
            for (int i = 0; i < 10; i++) {
                x.add(d, (d * 5 + i * (d + 1)) % 12);
            }
        }
        askAll(x);
        before = taken();
        for (int k = 0; k < 20; k++) {
            askAll(x);
        }
        long all = taken() - before - nothing;
        due.is("calls make objects: " + all + " bytes", all < 1_000 ? 1 : 0, 1);
        due.end();
    }

    private static void askAll(DeckBalance x) {
        x.power(3, x.power(3, 0));
        x.swap(1, 0, 9);
        x.drop(2, 4);
        x.add(2, 5);
        x.life(30);
        x.told(0, 1, 3);
        x.ring(0, 0);
        x.share(4, 1);
        x.live();
        x.standing(2);
        x.worth(0, x.at(0, 3));
        x.idle(0, x.at(0, 2));
        x.remedy(1, 20);
    }

    private static long taken() {
        return THREADS.getThreadAllocatedBytes(Thread.currentThread().getId());
    }
}
