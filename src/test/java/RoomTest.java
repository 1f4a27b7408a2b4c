import com.sun.management.ThreadMXBean;
import java.lang.management.ManagementFactory;

/** What one object makes in all of its calls: nothing is ever given back, so only SOURCES may take room. */
public final class RoomTest {
    private static final int CALLS = 512 - 16;
    // The room of a run holds 7.3 million elements, of 4 bytes at least: eight of the dearest objects must fit in.
    private static final long MOST_FOR_AN_OBJECT = 7_300_000L * 4 / 8;
    private static final ThreadMXBean BEAN = (ThreadMXBean) ManagementFactory.getThreadMXBean();

    public static void main(String[] args) {
        use(new TailBounds());
        long start = made();
        TailBounds x = new TailBounds();
        long fresh = made() - start;
        build(x);
        long built = made() - start;
        use(x);
        long used = made() - start - built;
        System.out.println("room: a new object " + fresh + " bytes, with 16 sources " + built + ", the other calls " + used);
        if (built + used > MOST_FOR_AN_OBJECT) {
            System.out.println("room: that is too much");
            System.exit(1);
        }
    }

    private static long made() {
        return BEAN.getThreadAllocatedBytes(Thread.currentThread().getId());
    }

    private static void build(TailBounds x) {
        x.coins(40, 1, 4);
        x.both(0, 0);
        x.both(1, 0);
        for (int i = 3; i < 16; i++) {
            x.held(2, i, 120 - i);
        }
    }

    private static void use(TailBounds x) {
        for (int i = 0; i < CALLS; i++) {
            int s = i % 16;
            switch (i % 11) {
                case 0: x.mean(i % 5, s); break;
                case 1: x.moment(i % 5, s, 4); break;
                case 2: x.tail(i % 5, s, 70, 2); break;
                case 3: case 4: x.bound(i % 5, s, 100, i % 5); break;
                case 5: x.work(i % 2, i % 5, (i + 1) % 5, (i + 3) % 5); break;
                case 6: x.needed(0, 10, 1, 1000, 1); break;
                case 7: x.crossed(i % 5, i % 3, 40); break;
                case 8: x.digits(i % 5, 18); break;
                case 9: x.both(0, 0); break;
                default: x.counted(s, 3); break;
            }
        }
    }
}
