import java.lang.management.ManagementFactory;

/** The room of one run: the dearest calls, as many as a run has, make next to nothing beside the object itself. */
final class RoomTest {
    private static final Due DUE = new Due("RoomTest");
    private static final int CALLS = 512;
    private static final long MOST_BYTES_A_RUN = 100_000;

    public static void main(String[] args) {
        com.sun.management.ThreadMXBean threads =
                (com.sun.management.ThreadMXBean) ManagementFactory.getThreadMXBean();
        long id = Thread.currentThread().getId();
        for (int call = 0; call < 14; call++) {
            run(call);
            long before = threads.getThreadAllocatedBytes(id);
            run(call);
            long made = threads.getThreadAllocatedBytes(id) - before;
            DUE.holds("call " + call + ": a run makes " + made + " bytes", made < MOST_BYTES_A_RUN);
        }
        DUE.finish();
    }

    private static void run(int call) {
        SamePlace x = new SamePlace();
        for (int kind = 0; kind < 6; kind++) {
            Due.path(x, kind, 3, 0, 0, 300, 10 * kind, 600, 600);
        }
        Due.read(x, "near place+minute*3;off way*20-points;worth far-place+minute;");
        x.force(1);
        Due.lay(x, 0, 2, 0, 0, 999999, 300, 0, 999999, 600, 0, 999999);
        for (int i = 0; i < CALLS - 120; i++) {
            dear(x, call, i);
        }
    }

    private static long dear(SamePlace x, int call, int i) {
        switch (call) {
            case 0: return x.sure(0, 1);
            case 1: return x.chance(i, 20, 0, 0);
            case 2: return x.half(i % 6, 1);
            case 3: return x.apart(0, 1, 2);
            case 4: return x.mean(0, 1 + i % 300);
            case 5: return x.posts(0);
            case 6: return x.fits(0);
            case 7: return x.wrong(0, 0, 1);
            case 8: return x.when(0, 1, 0);
            case 9: return i % 2 == 0 ? x.image() : x.back();
            case 10: return x.sheet(1, i % 3, 40);
            case 11: return i % 100 == 0 ? x.text() : x.feed('(');
            case 12: return x.points(0, 2, 0, 3);
            default: return x.meet(0, 1, 0);
        }
    }

    private RoomTest() {
    }
}
