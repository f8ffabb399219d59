import com.sun.management.ThreadMXBean;
import java.lang.management.ManagementFactory;

/** The dearest runs make no objects behind the constructor, and a new object stays small. */
public final class RoomTest {
    private static final int CALLS = 512;
    private static final long BYTES_OF_ONE_OBJECT = 60_000;
    /** What the machine itself may make meanwhile. */
    private static final long BYTES_OF_CALLS = 20_000;

    private static final ThreadMXBean BEAN = (ThreadMXBean) ManagementFactory.getThreadMXBean();
    private static int wrong = 0;

    public static void main(String[] args) {
        BEAN.getThreadAllocatedBytes(Thread.currentThread().getId());
        dearRun();
        long before = bytes();
        RankRoster one = new RankRoster();
        demand("a new object", bytes() - before, BYTES_OF_ONE_OBJECT);
        demand("a run of " + CALLS + " calls", dearRun(), BYTES_OF_CALLS);
        if (one.count(0) != 0) {
            wrong++;
        }
        System.out.println(wrong == 0 ? "the room is kept" : "too much room is taken");
        if (wrong != 0) {
            System.exit(1);
        }
    }

    private static long bytes() {
        return BEAN.getThreadAllocatedBytes(Thread.currentThread().getId());
    }

    private static void demand(String what, long taken, long most) {
        if (taken > most) {
            wrong++;
            System.out.println(what + " takes " + taken + " bytes, " + most + " at most are due");
        }
    }

    /** As many duties, people and wishes as can be, then rules and givings in turn. */
    private static long dearRun() {
        RankRoster x = new RankRoster();
        long before = bytes();
        int calls = 0;
        for (int d = 0; d < 9; d++, calls++) {
            x.duty(d, 1, 1 + d, d % 2, d % 3 == 0 ? 1 : 0);
        }
        for (int p = 0; p < 4; p++, calls++) {
            x.person(15 - p, 200 - 40 * p);
        }
        for (int w = 0; w < 20; w++, calls++) {
            x.wish(w / 5, w % 6, w % 6 == 3 ? 0 : w % 9);
        }
        for (; calls < CALLS; calls += 7) {
            x.rule(2, 1 + calls % 14);
            x.ahead(3, calls % 4);
            x.lines(calls % 4);
            x.give();
            x.denied(calls % 4, calls % 5);
            x.swap(0, calls % 9, 1, -1);
            x.sick(calls % 4, calls % 14);
        }
        return bytes() - before;
    }
}
