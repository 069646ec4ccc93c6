import com.sun.management.ThreadMXBean;
import java.lang.management.ManagementFactory;

/** What a run of 512 of the dearest calls makes stays far below the room, 7.3 million fields and elements. */
public final class RoomTest {
    private static final Check CHECK = new Check("RoomTest");
    private static final long MOST_BYTES = 4_000_000;

    public static void main(String[] args) {
        measure(true);
        long made = measure(false);
        CHECK.that("bytes made by a run: " + made, made > 0 && made < MOST_BYTES);
        CHECK.end();
    }

    private static long measure(boolean warm) {
        ThreadMXBean bean = (ThreadMXBean) ManagementFactory.getThreadMXBean();
        long ahead = bean.getThreadAllocatedBytes(Thread.currentThread().getId());
        TriggerMatches x = Calls.with("a=f(a);b;c;d;");
        Calls.put(x, "h(x,h(y,z))>h(h(x,y),z);h(x,y)>h(y,x);f(h(x,y))>h(f(x),f(y));f(x)>g(x);g(x)>f(f(x));g(g(z))>z;");
        int calls = 128;
        for (; calls < 512; calls += 4) {
            CHECK.due("reads", x.reads(), 6);
            x.rounds(9);
            x.digest();
            x.anew();
        }
        long behind = bean.getThreadAllocatedBytes(Thread.currentThread().getId());
        return warm ? 0 : behind - ahead;
    }
}
