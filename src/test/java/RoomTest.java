import com.sun.management.ThreadMXBean;
import java.lang.management.ManagementFactory;

/** All is made by the constructor: the 512 calls of a run make nothing more, so that it fits its room. */
public final class RoomTest {
    private static final int CALLS = 512, TO_MAKE = 83, IN_A_ROUND = 12;
    private static final long MOST_FOR_AN_OBJECT = 100_000, MOST_FOR_CALLS = 100_000;
    private static long sum = 0;

    public static void main(String[] args) {
        Check check = new Check("RoomTest");
        call(town());
        long ahead = used();
        TideMen x = town();
        long made = used();
        for (int n = TO_MAKE; n + IN_A_ROUND <= CALLS; n += IN_A_ROUND) {
            call(x);
        }
        long behind = used();
        check.due("an object takes " + (made - ahead), made - ahead < MOST_FOR_AN_OBJECT ? 1 : 0, 1);
        check.due("calls take " + (behind - made), behind - made < MOST_FOR_CALLS ? 1 : 0, 1);
        check.due("all calls are made", sum == 0 ? 0 : 1, 1);
        check.end();
    }

    private static TideMen town() {
        TideMen x = Check.town("a300;s911;t210;d591;a000;a190;t992;s013", "13;22;31",
            "05251;12390;12121;20950;28111;29999");
        x.seen(20, 0, 30);
        return x;
    }

    private static void call(TideMen x) {
        x.undo(2);
        x.type(2, '9');
        sum += x.digest() + x.sheet(0, 2, 60) + x.put(0, 2, 1, 5) + x.write(9, 0) + x.copy(0, 0, 0, 1, 5);
        sum += x.read(0) + x.forget() + x.sheet(1, 2, -1) + x.lose(0) + x.get(0, 0, 0);
    }

    private static long used() {
        return ((ThreadMXBean) ManagementFactory.getThreadMXBean()).getCurrentThreadAllocatedBytes();
    }
}
