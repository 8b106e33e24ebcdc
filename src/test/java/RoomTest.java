import com.sun.management.ThreadMXBean;
import java.lang.management.ManagementFactory;

/** What calls make anew: all calls of a run live in one room, so that nearly nothing may be made by a call. */
public final class RoomTest {
    private static final int CALLS = 512;
    private static final ThreadMXBean threads = (ThreadMXBean) ManagementFactory.getThreadMXBean();
    private static final Due due = new Due();

    private RoomTest() {
    }

    public static void main(String[] args) {
        // Once ahead of the count, since the machine loads each class and each call's code as it first comes to it.
        AwakeTurns first = new AwakeTurns();
        dress(first);
        ask(first, 0);
        long before = threads.getCurrentThreadAllocatedBytes();
        AwakeTurns x = new AwakeTurns();
        atMost("a new object", before, 8_000);
        dress(x);
        before = threads.getCurrentThreadAllocatedBytes();
        for (int k = 0; k < CALLS; k++) {
            ask(x, k);
        }
        atMost(CALLS + " times every call that asks", before, 4_000);
        before = threads.getCurrentThreadAllocatedBytes();
        for (int k = 0; k < CALLS; k++) {
            x.ship(0, 0, 0, 25);
        }
        atMost(CALLS + " ships of six", before, CALLS * 6 * 32 + 4_000);
        before = threads.getCurrentThreadAllocatedBytes();
        for (int k = 0; k < CALLS; k++) {
            x.sheet(1, k % 3, 60);
            x.copy(0, 0, 0, 1, 59);
        }
        atMost(CALLS + " new rows", before, 4_000);
        due.end();
    }

    private static void atMost(String what, long before, long most) {
        long made = threads.getCurrentThreadAllocatedBytes() - before;
        due.holds(what + ": " + made + " bytes, at most " + most, made <= most);
    }

    private static void dress(AwakeTurns x) {
        String text = "a;o19;o29;f49;f29;s19;s29";
        x.sheet(0, 0, 60);
        for (int i = 0; i < text.length(); i++) {
            x.put(0, i, text.charAt(i));
        }
        due.is("ship", x.ship(0, 0, 0, text.length()), 6);
        x.sheet(2, 2, 12);
        x.law(1);
        for (int m = 0; m < 12; m++) {
            x.wants(m, m % 8);
            x.up(m % 6, m, true);
            x.note(m % 6, (m + 1) % 6);
            x.reading(m % 6, m, m % 2 == 0);
        }
    }

    private static long ask(AwakeTurns x, int k) {
        int s = k % 6;
        int m = k % 12;
        long sum = x.ofSleeper(s, 3) + x.up(s, m, k % 3 == 0) + x.awake(m) + x.harm(s, m) + x.skills(s, m) + x.lacks(m);
        sum += x.wrong(k % 3) + x.cover(m) + x.least(m) + x.judge(2, 2, 0, 12) + x.trades(k % 16 - 1);
        sum += x.knows(s, m, 0) + x.kept(s, m) + x.began(m) + x.woken(s, 0, m) + x.odds(m, k % 2);
        return sum + x.cell(2, m, 2) + x.tell(s) + x.greet(s) + x.as(s, k % 3) + x.trace() + x.fault() + x.many(0);
    }
}
