import com.sun.management.ThreadMXBean;
import java.lang.management.ManagementFactory;

/** How much room a run takes: objects are made in the constructor, none by a call. */
public final class RoomTest {
    private static final long MOST_BYTES_OF_AN_OBJECT = 32_000;
    private static final long MOST_BYTES_OF_ALL_CALLS = 4_000;

    private static final ThreadMXBean THREADS = (ThreadMXBean) ManagementFactory.getThreadMXBean();

    public static void main(String[] args) {
        Check check = new Check("Room");
        dearRun(new IceLand());
        long before = THREADS.getCurrentThreadAllocatedBytes();
        IceLand x = new IceLand();
        long made = THREADS.getCurrentThreadAllocatedBytes();
        dearRun(x);
        long behind = THREADS.getCurrentThreadAllocatedBytes();
        if (made - before > MOST_BYTES_OF_AN_OBJECT) {
            check.wrong("an object takes " + (made - before) + " bytes");
        }
        if (behind - made > MOST_BYTES_OF_ALL_CALLS) {
            check.wrong("the calls of a run take " + (behind - made) + " bytes");
        }
        check.end();
    }

    private static void dearRun(IceLand x) {
        x.climate(70, 20, 9);
        x.sea(90);
        x.land(0, 500);
        x.land(11, 0);
        for (int i = 0; i < 10; i++) {
            x.forecast(20);
        }
        for (int i = 0; i < 30; i++) {
            x.ice(i % 12, 500);
            x.ash();
            x.pass(1);
        }
        for (int i = 0; i < 340; i++) {
            x.would(20, i % 12, i % 10);
        }
        for (int i = 0; i < 12; i++) {
            x.yearAt(i, 9);
            x.common(i, 0);
            x.layer(i, i);
            x.total(i % 6);
            x.front(i);
            x.iceAnew();
        }
    }
}
