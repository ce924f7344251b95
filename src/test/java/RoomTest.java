import java.lang.management.ManagementFactory;
import java.util.NoSuchElementException;

/** No call throws by itself whatever it is asked, and 512 of the dearest calls stay well within the room. */
public final class RoomTest {
    private static final int CALLS = Fresh.MOST_CALLS;
    // The room holds 7.3 million fields and elements; a twentieth of it, at 8 bytes each.
    private static final long MOST_BYTES = 8L * 7300000 / 20;
    private static final int[] EDGES = {0, 1, -1, 2, -2, 3, 4, 5, 7, 12, 20, 281, 300, 301, 500, 501, 997, 999, 1000,
        1001, 10000, 10001, 30000, 30001, 100000, 1000000, 1000001, -1000000, 1000000000, -1000000000, 1000000001,
        Integer.MAX_VALUE, Integer.MIN_VALUE};
    private static final int MANY = EDGES.length;
    private static final Check CHECK = new Check("room");

    private RoomTest() {
    }

    public static void main(String[] args) {
        // A full text is many calls and takes no numbers, so that it has no edges.
        for (int call = 0; call < 32; call++) {
            edges(call);
        }
        for (int call = 0; call <= 32; call++) {
            room(call);
        }
        CHECK.finish();
    }

    private static long call(SawSums x, int call, int[] n) {
        boolean under = (n[4] & 1) != 0;
        switch (call) {
            case 0: return x.saw(n[0], n[1], under);
            case 1: return x.sum(n[0], n[1], under);
            case 2: return x.both(n[0], n[1], under);
            case 3: return x.three(n[0], n[1], n[2], under);
            case 4: return x.above(n[0], n[1], n[2]);
            case 5: return x.chain(n[0], n[1], n[2]);
            case 6: return x.minus(n[0], n[1], n[2]);
            case 7: return x.alike(n[0], n[1], n[2]);
            case 8: return x.sorts(n[0], n[1]);
            case 9: return x.steps(n[0], n[1], n[2], n[3]);
            case 10: return x.triangle(n[0], n[1], n[2]);
            case 11: return x.inside(n[0], n[1], n[2]);
            case 12: return x.pyramid(n[0], n[1], n[2]);
            case 13: return of(x, n[0]);
            case 14: return x.set(n[0], n[1], n[2], n[3]) ? 1 : 0;
            case 15: return x.turn() ? 1 : 0;
            case 16: return x.shift(n[0]) ? 1 : 0;
            case 17: return x.times(n[0], n[1], n[2], n[3]) ? 1 : 0;
            case 18: return x.invert() ? 1 : 0;
            case 19: return x.phi(n[0]);
            case 20: return x.kind();
            case 21: return x.order();
            case 22: return x.word(n[0]);
            case 23: return x.same(n[0], n[1], n[2]);
            case 24: return x.ring(n[0], n[1]);
            case 25: return x.rings(n[0], n[1]);
            case 26: return x.twins(n[0], n[1]);
            case 27: return x.feed(n[0], n[1], n[2], n[3], n[4]);
            case 28: return x.end(n[0]) ? 1 : 0;
            case 29: return x.tell();
            case 30: return x.told(under);
            case 31: return x.count(n[0]);
            default: return text(x);
        }
    }

    private static long of(SawSums x, int what) {
        try {
            return x.of(what);
        } catch (NoSuchElementException e) {
            CHECK.yes("only another what throws", what < 0 || what > 3);
            return SawSums.NO_NUMBER;
        }
    }

    /** A full TAPE with the most that can be worked out. */
    private static long text(SawSums x) {
        int ones = '1' << 24 | '-' << 16 | '1' << 8 | '-';
        for (int i = 0; i < 15; i++) {
            x.feed(ones, ones, ones, ones, ones);
        }
        x.end(299);
        return x.tell();
    }

    private static void edges(int call) {
        Fresh objects = new Fresh();
        long before = 0;
        for (int i = 0; i < MANY * MANY * MANY; i++) {
            int[] n = {EDGES[i % MANY], EDGES[i / MANY % MANY], EDGES[i / MANY / MANY % MANY],
                EDGES[i * 7 % MANY], EDGES[i * 5 % MANY]};
            try {
                before += call(objects.one(), call, n);
            } catch (RuntimeException e) {
                CHECK.fault("call " + call + " threw " + e);
                return;
            }
        }
        CHECK.yes("call " + call + " never threw " + before, true);
    }

    private static int[] dearest(int call) {
        switch (call) {
            case 0: return new int[] {1, 999999999, 0, 0, 0};
            case 1: return new int[] {433494437, 701408733, 0, 0, 0};
            case 2: return new int[] {17711, 28657, 0, 0, 0};
            case 3: return new int[] {997, 999, 1000, 0, 0};
            case 4: return new int[] {610, 987, 1000, 0, 0};
            case 5: return new int[] {433494437, 701408733, -1, 0, 0};
            case 6: return new int[] {9999, 10000, -1, 0, 0};
            case 7: return new int[] {1, 499, -1, 0, 0};
            case 8: return new int[] {499, 0, 0, 0, 0};
            case 9: return new int[] {514229, 0, 832040, 100000, 0};
            case 10: case 11: return new int[] {514229, 832040, 1000000000, 0, 0};
            case 12: return new int[] {300, 299, 293, 0, 0};
            case 17: return new int[] {2, 1, 1, 1, 0};
            case 19: case 22: return new int[] {0, 0, 0, 0, 0};
            case 23: return new int[] {997, 610, 987, 0, 0};
            case 24: case 25: case 26: return new int[] {997, -1, 0, 0, 0};
            default: return new int[] {1, 0, 0, 1, 0};
        }
    }

    private static void room(int call) {
        com.sun.management.ThreadMXBean threads =
            (com.sun.management.ThreadMXBean) ManagementFactory.getThreadMXBean();
        int[] numbers = dearest(call);
        long start = threads.getCurrentThreadAllocatedBytes();
        SawSums x = new SawSums();
        long sum = 0;
        for (int i = 0; i < (call == 32 ? CALLS / 17 : CALLS); i++) {
            sum += call(x, call, numbers);
        }
        long used = threads.getCurrentThreadAllocatedBytes() - start;
        CHECK.yes("call " + call + " used " + used + " bytes " + sum, used < MOST_BYTES);
    }
}
