import java.util.NoSuchElementException;

/** Promises 1 and 15 to 28, each sentence that names a boundary, with numbers written out. */
public final class MatrixEdgesTest {
    private static final long NO = SawSums.NO_NUMBER;
    private static final int NONE = SawSums.NONE;
    private static final int BILLION = 1000000000;
    private static final int LEAST = Integer.MIN_VALUE;
    private static final int MOST = Integer.MAX_VALUE;
    private static final Check CHECK = new Check("edges of the matrix and of rings");
    private static final Fresh X = new Fresh();

    private MatrixEdgesTest() {
    }

    public static void main(String[] args) {
        newObject();
        of();
        setWithinTheBounds();
        setToNone();
        turn();
        shiftToTheBounds();
        shiftBeyondTheBounds();
        timesToTheBounds();
        timesNone();
        timesBeyondTheBounds();
        invert();
        phi();
        kindAndOrder();
        word();
        sameWithinItsBounds();
        ring();
        rings();
        twins();
        ringsRefused();
        lastCall();
        CHECK.finish();
    }

    private static void is(String what, SawSums x, int a, int b, int c, int d) {
        CHECK.due(what + " a", a, x.of(0));
        CHECK.due(what + " b", b, x.of(1));
        CHECK.due(what + " c", c, x.of(2));
        CHECK.due(what + " d", d, x.of(3));
    }

    private static SawSums with(int a, int b, int c, int d) {
        SawSums x = new SawSums();
        String call = "set " + a + " " + b + " " + c + " " + d;
        CHECK.yes(call, x.set(a, b, c, d));
        is(call, x, a, b, c, d);
        return x;
    }

    // ---- promise 1

    private static void newObject() {
        SawSums x = new SawSums();
        is("new", x, 1, 0, 0, 1);
        CHECK.due("its PHI", 0, x.phi(0));
        CHECK.due("its PSI", 0, x.phi(1));
        CHECK.due("its kind", 1, x.kind());
        CHECK.due("its order", 1, x.order());
        CHECK.due("its WORD", 1, x.word(NONE));
        CHECK.due("its WORD is", 0, x.word(0));
    }

    // ---- promise 15

    private static boolean throwsAt(SawSums x, int what) {
        try {
            x.of(what);
        } catch (NoSuchElementException e) {
            return true;
        }
        return false;
    }

    private static void of() {
        SawSums x = with(2, 5, 1, 3);
        for (int what : new int[] {-1, 4, -2, 5, LEAST, MOST}) {
            CHECK.yes("of " + what + " throws", throwsAt(x, what));
        }
        for (int what = 0; what < 4; what++) {
            CHECK.no("of " + what + " throws", throwsAt(x, what));
        }
        is("it stays", x, 2, 5, 1, 3);
    }

    // ---- promise 16

    private static void setWithinTheBounds() {
        for (int sign : new int[] {1, -1}) {
            int bound = sign * BILLION;
            with(bound, -1, 1, 0);
            with(1, bound, 0, 1);
            with(1, 0, bound, 1);
            with(0, -1, 1, bound);
        }
        with(BILLION, BILLION - 1, 1 - BILLION, 2 - BILLION);
        with(BILLION - 2, BILLION - 1, 1 - BILLION, -BILLION);
        with(BILLION - 1, BILLION, BILLION - 2, BILLION - 1);
        with(BILLION - 1, BILLION - 2, BILLION, BILLION - 1);
        CHECK.yes("set to what it is", with(7, 3, 2, 1).set(7, 3, 2, 1));
    }

    private static void notSet(int a, int b, int c, int d) {
        SawSums x = with(7, 3, 2, 1);
        String call = "set " + a + " " + b + " " + c + " " + d;
        CHECK.no(call, x.set(a, b, c, d));
        is("behind " + call, x, 7, 3, 2, 1);
    }

    private static void setToNone() {
        for (int bad : new int[] {BILLION + 1, -BILLION - 1, LEAST, MOST}) {
            notSet(bad, -1, 1, 0);
            notSet(1, bad, 0, 1);
            notSet(1, 0, bad, 1);
            notSet(0, -1, 1, bad);
        }
        notSet(0, 0, 0, 0);
        notSet(2, 1, 1, 0);
        notSet(1, 0, 0, -1);
        notSet(0, 1, 1, 0);
        notSet(2, 0, 0, 1);
        // 1 only if the products wrapped around at 2^32.
        notSet(65536, 1, -1, 65536);
        notSet(65536, 65536, -65536, 1);
        notSet(BILLION, BILLION, -BILLION, BILLION);
        notSet(BILLION, BILLION, BILLION, BILLION);
    }

    // ---- promise 17

    private static void turn() {
        SawSums x = with(BILLION - 1, BILLION, BILLION - 2, BILLION - 1);
        CHECK.yes("turn at the bound", x.turn());
        is("turned", x, BILLION, 1 - BILLION, BILLION - 1, 2 - BILLION);
        SawSums upper = with(BILLION, -1, 1, 0);
        CHECK.yes("turn at the bound", upper.turn());
        is("turned", upper, -1, -BILLION, 0, -1);
        CHECK.yes("turn back", upper.turn());
        is("turned", upper, -BILLION, 1, -1, 0);
        SawSums lower = with(1, 0, BILLION, 1);
        CHECK.yes("turn at the bound", lower.turn());
        is("turned", lower, 0, -1, 1, -BILLION);
    }

    // ---- promise 18

    private static void shiftToTheBounds() {
        SawSums upper = with(2, 1, 1, 1);
        CHECK.yes("b to its most", upper.set(1, 1, 0, 1) && upper.shift(BILLION - 1));
        is("b at its most", upper, 1, BILLION, 0, 1);
        CHECK.yes("b to its least", upper.shift(-2000000000));
        is("b at its least", upper, 1, -BILLION, 0, 1);
        SawSums lower = with(0, -1, 1, 0);
        CHECK.yes("d to its most", lower.shift(BILLION));
        is("d at its most", lower, 0, -1, 1, BILLION);
        CHECK.yes("d to its least", lower.shift(-2000000000));
        is("d at its least", lower, 0, -1, 1, -BILLION);
        SawSums both = with(BILLION, -1, 1, 0);
        CHECK.yes("shift 1 at a 10^9", both.shift(1));
        is("shifted", both, BILLION, BILLION - 1, 1, 1);
        CHECK.yes("shift 0", both.shift(0));
        is("shifted by 0", both, BILLION, BILLION - 1, 1, 1);
    }

    private static void notShifted(int a, int b, int c, int d, int n) {
        SawSums x = with(a, b, c, d);
        String call = "shift " + n + " of " + a + " " + b + " " + c + " " + d;
        CHECK.no(call, x.shift(n));
        is("behind " + call, x, a, b, c, d);
    }

    private static void shiftBeyondTheBounds() {
        notShifted(1, BILLION, 0, 1, 1);
        notShifted(1, -BILLION, 0, 1, -1);
        notShifted(1, 1, 0, 1, BILLION);
        notShifted(1, -1, 0, 1, -BILLION);
        notShifted(0, -1, 1, BILLION, 1);
        notShifted(0, -1, 1, -BILLION, -1);
        notShifted(BILLION, -1, 1, 0, 2);
        notShifted(1, 0, BILLION, 1, 1);
        notShifted(1, 0, 0, 1, LEAST);
        notShifted(1, 0, 0, 1, MOST);
        notShifted(-1, 0, 0, -1, LEAST);
        // Within the bounds only if the products wrapped around at 2^32.
        notShifted(65536, -1, 1, 0, 65536);
        notShifted(1, 0, 65536, 1, 65536);
        notShifted(BILLION, BILLION - 1, 1 - BILLION, 2 - BILLION, MOST);
        notShifted(BILLION, BILLION - 1, 1 - BILLION, 2 - BILLION, LEAST);
    }

    // ---- promise 19

    private static void timesToTheBounds() {
        SawSums x = new SawSums();
        CHECK.yes("times", x.times(BILLION - 1, BILLION, BILLION - 2, BILLION - 1));
        is("at the bound", x, BILLION - 1, BILLION, BILLION - 2, BILLION - 1);
        CHECK.yes("times all signs turned", x.times(-1, 0, 0, -1));
        is("at the other bound", x, 1 - BILLION, -BILLION, 2 - BILLION, 1 - BILLION);
        CHECK.yes("times what brings it back", x.times(1 - BILLION, BILLION, BILLION - 2, 1 - BILLION));
        is("it is back", x, 1, 0, 0, 1);
        SawSums ordered = with(1, 1, 0, 1);
        CHECK.yes("it stands first", ordered.times(1, 0, 1, 1));
        is("it stood first", ordered, 2, 1, 1, 1);
    }

    private static void notMultiplied(int[] m, int a, int b, int c, int d) {
        SawSums x = with(m[0], m[1], m[2], m[3]);
        String call = "times " + a + " " + b + " " + c + " " + d;
        CHECK.no(call, x.times(a, b, c, d));
        is("behind " + call, x, m[0], m[1], m[2], m[3]);
    }

    private static void timesNone() {
        int[] one = {1, 0, 0, 1};
        for (int bad : new int[] {BILLION + 1, -BILLION - 1, LEAST, MOST}) {
            notMultiplied(one, bad, -1, 1, 0);
            notMultiplied(one, 1, bad, 0, 1);
            notMultiplied(one, 1, 0, bad, 1);
            notMultiplied(one, 0, -1, 1, bad);
        }
        notMultiplied(one, 0, 0, 0, 0);
        notMultiplied(one, 1, 0, 0, -1);
        notMultiplied(one, 2, 0, 0, 1);
        notMultiplied(one, 65536, 1, -1, 65536);
        // What would come out is within the bounds, yet that is no MATRIX.
        notMultiplied(new int[] {1, BILLION, 0, 1}, 1, -BILLION - 1, 0, 1);
    }

    private static void timesBeyondTheBounds() {
        // One of the four alone, above and below.
        for (int sign : new int[] {1, -1}) {
            int[] upper = {sign, sign, 0, sign};
            int[] lower = {sign, 0, sign, sign};
            notMultiplied(upper, BILLION, -1, 1, 0);
            notMultiplied(upper, 1, BILLION, 0, 1);
            notMultiplied(lower, BILLION, -1, 1, 0);
            notMultiplied(lower, 1, BILLION, 0, 1);
        }
        int[] great = {BILLION - 1, BILLION, BILLION - 2, BILLION - 1};
        notMultiplied(great, BILLION - 1, BILLION, BILLION - 2, BILLION - 1);
        notMultiplied(great, 1 - BILLION, -BILLION, 2 - BILLION, 1 - BILLION);
        // Within the bounds only if the products wrapped around at 2^32.
        notMultiplied(new int[] {65536, -1, 1, 0}, 65536, -1, 1, 0);
        notMultiplied(new int[] {1, 65536, 0, 1}, 1, 0, 65536, 1);
    }

    // ---- promise 20

    private static void invert() {
        SawSums one = new SawSums();
        CHECK.yes("invert 1", one.invert());
        is("inverted", one, 1, 0, 0, 1);
        for (int sign : new int[] {1, -1}) {
            int bound = sign * BILLION;
            SawSums upper = with(bound, -1, 1, 0);
            CHECK.yes("invert", upper.invert());
            is("inverted", upper, 0, 1, -1, bound);
            SawSums beside = with(1, bound, 0, 1);
            CHECK.yes("invert", beside.invert());
            is("inverted", beside, 1, -bound, 0, 1);
            SawSums below = with(1, 0, bound, 1);
            CHECK.yes("invert", below.invert());
            is("inverted", below, 1, 0, -bound, 1);
        }
    }

    // ---- promise 21

    private static void phi(SawSums x, long phi, long psi) {
        CHECK.due("PHI", phi, x.phi(0));
        CHECK.due("PSI", psi, x.phi(1));
        for (int what : new int[] {-1, 2, -2, LEAST, MOST}) {
            CHECK.due("phi " + what, NO, x.phi(what));
        }
    }

    private static void phi() {
        // C is 0.
        phi(with(-1, 0, 0, -1), 0, 0);
        phi(with(1, BILLION, 0, 1), BILLION, BILLION);
        phi(with(1, -BILLION, 0, 1), -BILLION, -BILLION);
        phi(with(-1, BILLION, 0, -1), -BILLION, -BILLION);
        phi(with(-1, -BILLION, 0, -1), BILLION, BILLION);
        // C is above and below 0, a and d together are above, below and just 0.
        phi(with(0, -1, 1, 0), 0, 0);
        phi(with(0, 1, -1, 0), 0, 0);
        phi(with(1, -2, 1, -1), 0, 0);
        phi(with(0, -1, 1, 1), 1, -2);
        phi(with(0, -1, 1, -1), -1, 2);
        phi(with(1, 0, 2, 1), 1, -2);
        phi(with(1, 0, -2, 1), -1, 2);
        phi(with(-1, 0, 2, -1), -1, 2);
        phi(with(-3, 1, 2, -1), -2, 1);
        phi(with(1, 0, BILLION, 1), -999999997, -BILLION);
        phi(with(1, 0, -BILLION, 1), 999999997, BILLION);
        phi(with(-1, 0, BILLION, -1), 999999997, BILLION);
        phi(with(0, -1, 1, BILLION), BILLION, 999999997);
        phi(with(0, 1, -1, -BILLION), BILLION, 999999997);
        // Above 10^9 in size.
        phi(with(BILLION, BILLION - 1, 1, 1), 1000000001, 999999998);
        phi(with(-BILLION, 1 - BILLION, -1, -1), 1000000001, 999999998);
        phi(with(BILLION - 1, BILLION, BILLION - 2, BILLION - 1), -999999993, -999999996);
        phi(with(433494437, 267914296, 701408733, 433494437), 2, -1);
    }

    // ---- promises 22 and 23

    private static void kindAndOrder(int kind, int order, SawSums x) {
        CHECK.due("kind", kind, x.kind());
        CHECK.due("order", order, x.order());
    }

    private static void kindAndOrder() {
        int[] orders = {NONE, NONE, 3, 4, 6, NONE, NONE};
        int[] kinds = {2, 1, 0, 0, 0, 1, 2};
        for (int trace = -3; trace <= 3; trace++) {
            kindAndOrder(kinds[trace + 3], orders[trace + 3], with(0, -1, 1, trace));
            kindAndOrder(kinds[trace + 3], orders[trace + 3], with(trace, 1, -1, 0));
        }
        kindAndOrder(1, 1, with(1, 0, 0, 1));
        kindAndOrder(1, 2, with(-1, 0, 0, -1));
        kindAndOrder(1, NONE, with(1, 1, 0, 1));
        kindAndOrder(1, NONE, with(1, 0, 1, 1));
        kindAndOrder(1, NONE, with(-1, 0, 1, -1));
        kindAndOrder(1, NONE, with(-1, BILLION, 0, -1));
        kindAndOrder(0, 4, with(31622, -999950885, 1, -31622));
        // A and d together are 2 10^9 less 2 in size: no int wraps around.
        kindAndOrder(2, NONE, with(BILLION - 1, BILLION, BILLION - 2, BILLION - 1));
        kindAndOrder(2, NONE, with(1 - BILLION, -BILLION, 2 - BILLION, 1 - BILLION));
    }

    // ---- promise 24

    private static void word(SawSums x, long... all) {
        CHECK.due("WORD's length", all.length, x.word(NONE));
        for (int i = 0; i < all.length; i++) {
            CHECK.due("WORD at " + i, all[i], x.word(i));
        }
        for (int i : new int[] {all.length, all.length + 1, -2, LEAST, MOST}) {
            CHECK.due("WORD at " + i, NO, x.word(i));
        }
    }

    private static void word() {
        // C is 0 from the first: b times d alone.
        word(with(-1, 0, 0, -1), 0);
        word(with(1, BILLION, 0, 1), BILLION);
        word(with(-1, BILLION, 0, -1), -BILLION);
        word(with(0, -1, 1, 0), 0, 0);
        word(with(0, 1, -1, 0), 0, 0);
        word(with(0, -1, 1, BILLION), 0, BILLION);
        word(with(BILLION, BILLION - 1, 1, 1), BILLION, 1);
        word(with(-BILLION, 1 - BILLION, -1, -1), BILLION, 1);
        word(with(1, 0, BILLION, 1), 0, -BILLION, 0);
        word(with(1, 0, -BILLION, 1), 0, BILLION, 0);
        // Just between two: downwards, also below 0.
        word(with(1, 0, 2, 1), 1, 2, 1);
        word(with(1, 0, -2, 1), 0, 2, 0);
        word(with(-1, 0, 2, -1), 0, 2, 0);
        word(with(3, 1, 2, 1), 2, 2, 1);
        word(with(-3, 1, 2, -1), -1, 2, 0);
        long[] golden = new long[23];
        java.util.Arrays.fill(golden, 3);
        golden[0] = 1;
        golden[22] = 1;
        word(with(433494437, 267914296, 701408733, 433494437), golden);
    }

    // ---- promise 25

    private static void same(int p, int q, int o, int want) {
        CHECK.due("same " + p + " " + q + " " + o, want, X.one().same(p, q, o));
        CHECK.due("same " + p + " " + o + " " + q, want, X.one().same(p, o, q));
    }

    private static void sameWithinItsBounds() {
        same(2, 1, 1, 2);
        same(3, 1, 2, 1);
        same(3, 2, 2, 2);
        same(1000, 1, 1, 2);
        same(1000, 999, 999, 2);
        same(1000, 1, 999, 1);
        same(1000, 3, 667, 2);
        same(1000, 3, 333, 1);
        same(1000, 1, 3, 0);
        // SAME comes before MIRRORED: 2 times 2 is 1 less than 5.
        same(5, 2, 3, 2);
        same(5, 2, 2, 2);
        // Q is brought to 1 to p - 1.
        same(2, -1, MOST, 2);
        same(3, LEAST, 1, 2);
        same(3, MOST, 2, 1);
        same(1000, 1001, -999, 2);
        same(1000, -1, 1, 1);
        same(1000, MOST, 647, 2);
        same(999, LEAST, 718, 2);
        same(999, LEAST, -718, 1);
    }

    // ---- promise 26

    private static void ring(int p, int q, int want) {
        CHECK.due("ring " + p + " " + q, want, X.one().ring(p, q));
    }

    private static void ring() {
        ring(2, 1, 1);
        ring(2, -1, 1);
        ring(2, MOST, 1);
        ring(3, 2, 1);
        ring(3, LEAST, 1);
        ring(1000, 1, 1);
        ring(1000, 999, 1);
        ring(1000, 1001, 1);
        ring(1000, -999, 1);
        ring(1000, 667, 3);
        ring(1000, 333, 3);
        ring(1000, 3, 3);
        ring(1000, 997, 3);
        ring(1000, 499, 499);
        ring(1000, MOST, 17);
        ring(999, LEAST, 32);
        ring(999, MOST, 280);
        ring(997, LEAST, 386);
        ring(997, LEAST + 1, 151);
    }

    // ---- promise 27

    private static void rings() {
        int[][] few = {{2, 1}, {3, 1}, {4, 1}, {6, 1}, {5, 1, 2}, {8, 1, 3}};
        for (int[] row : few) {
            CHECK.due("CLASSES of " + row[0], row.length - 1, X.one().rings(row[0], NONE));
            for (int i = 1; i < row.length; i++) {
                CHECK.due("CLASS of " + row[0], row[i], X.one().rings(row[0], i - 1));
            }
            for (int i : new int[] {row.length - 1, row.length, 499, 500, 501, -2, LEAST, MOST}) {
                CHECK.due("CLASS of " + row[0] + " at " + i, NONE, X.one().rings(row[0], i));
            }
        }
        CHECK.due("CLASSES of 1000", 102, X.one().rings(1000, NONE));
        CHECK.due("the first", 1, X.one().rings(1000, 0));
        CHECK.due("the second", 3, X.one().rings(1000, 1));
        CHECK.due("the last", 499, X.one().rings(1000, 101));
        CHECK.due("behind the last", NONE, X.one().rings(1000, 102));
        CHECK.due("CLASSES of 997", 250, X.one().rings(997, NONE));
        CHECK.due("the last", 460, X.one().rings(997, 249));
        CHECK.due("behind the last", NONE, X.one().rings(997, 250));
    }

    // ---- promise 28

    private static void twins() {
        int[][] few = {{2}, {7}, {997}, {25, 4009}, {49, 6013, 6020, 13020}};
        for (int[] row : few) {
            CHECK.due("TWINS of " + row[0], row.length - 1, X.one().twins(row[0], NONE));
            for (int i = 1; i < row.length; i++) {
                CHECK.due("TWINS of " + row[0], row[i], X.one().twins(row[0], i - 1));
            }
            for (int i : new int[] {row.length - 1, row.length, 499, 500, -2, LEAST, MOST}) {
                CHECK.due("TWINS of " + row[0] + " at " + i, NONE, X.one().twins(row[0], i));
            }
        }
        CHECK.due("TWINS of 1000", 30, X.one().twins(1000, NONE));
        CHECK.due("the first", 29331, X.one().twins(1000, 0));
        CHECK.due("the last", 271431, X.one().twins(1000, 29));
        CHECK.due("behind the last", NONE, X.one().twins(1000, 30));
        CHECK.due("TWINS of 999", 41, X.one().twins(999, NONE));
        CHECK.due("the last", 409463, X.one().twins(999, 40));
    }

    // ---- promises 25 to 28: there are none such

    private static void ringsRefused() {
        for (int p : new int[] {1, 0, -1, -2, 1001, -1000, LEAST, MOST}) {
            for (int q : new int[] {1, 0, -1, 2, LEAST, MOST}) {
                same(p, q, 1, NONE);
                ring(p, q, NONE);
                CHECK.due("rings " + p + " " + q, NONE, X.one().rings(p, q));
                CHECK.due("twins " + p + " " + q, NONE, X.one().twins(p, q));
            }
        }
        int[][] common = {{2, 0}, {2, 2}, {2, LEAST}, {10, 5}, {10, 4}, {1000, 0}, {1000, 1000}, {1000, 2},
            {1000, -5}, {1000, LEAST}, {999, 3}, {997, 0}, {997, -997}};
        for (int[] row : common) {
            ring(row[0], row[1], NONE);
            same(row[0], row[1], 1, NONE);
            same(row[0], row[1], row[1], NONE);
        }
    }

    /** The 512th call still answers. */
    private static void lastCall() {
        SawSums x = new SawSums();
        for (int call = 1; call < Fresh.MOST_CALLS; call++) {
            CHECK.yes("shift", x.shift(1));
        }
        CHECK.due("the last call", 511, x.of(1));
    }
}
