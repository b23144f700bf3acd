import com.sun.management.ThreadMXBean;
import java.lang.management.ManagementFactory;

/**
 * All calls of a run live in one room of some 600,000 objects: the calls that make any are counted, for a
 * run of 512 of each, and all the others must make none at all.
 */
public final class RoomTest {
    private static final Checks C = new Checks("RoomTest");
    private static final ThreadMXBean BEAN = (ThreadMXBean) ManagementFactory.getThreadMXBean();
    private static final int CALLS = 512;
    private static long sum;

    public static void main(String[] args) {
        for (int call = 0; call < 9; call++) used(call);
        for (int call = 0; call < 9; call++) {
            long bytes = used(call);
            long bound = call == 0 ? 1_000_000 : call == 1 || call == 2 ? 1_500_000 : 1000;
            C.due("call " + call + " makes too much: " + bytes + " bytes", bytes > bound ? 1 : 0, 0);
        }
        C.due("sum", sum == 0 ? 1 : 0, 0);
        C.end();
    }

    /** Bytes for a run of the call. */
    private static long used(int call) {
        MatFlip x = new MatFlip();
        Checks.inn(x, "slip 7 n>1&s<9|(p=1|!y=3)&k<2;glue 3 g>0|s=4;wide 5;pay 2");
        for (int kind = 1; kind <= 6; kind++) x.player(kind, 3, 2 * kind, kind, 500);
        for (int i = 0; i < 8; i++) x.see(5, 10, 11, 10);
        x.image();
        long before = BEAN.getCurrentThreadAllocatedBytes();
        for (int i = 0; i < CALLS; i++) sum += asked(x, call);
        return BEAN.getCurrentThreadAllocatedBytes() - before;
    }

    private static long asked(MatFlip x, int call) {
        switch (call) {
            case 0: return x.inn();
            case 1: return x.image();
            case 2: return x.undo();
            case 3: return x.glass(5, 0) + x.stuck(5, 20) + x.record(5, 20);
            case 4: return x.title(-1) + x.order(2);
            case 5: return x.plan(5, 3, 0) + x.first(5, 3);
            case 6: return x.skills(5) + x.can(2) + x.looked();
            case 7: return x.raise(0, 1, 20, 8, 0, 0) + x.more(0, 1, 6, 0) + x.wager(0, 1, 3) + x.learns(4);
            default: return x.act(3, 2, 5) + x.go(1, 5, 11, 4) + x.mean(1, 5, 11, 0) + x.floor(1, 5, 1, 0) + x.would(2, 3, 4, 5);
        }
    }
}
