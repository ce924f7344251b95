/**
 * Promises 2 to 14, each sentence that names a boundary, with numbers written out.
 *
 * The sums were worked out ahead by their definition (those of k near 10^9 with all their terms), so that
 * nothing here rests on the laws that the class uses.
 */
public final class SumsEdgesTest {
    private static final long NO = SawSums.NO_NUMBER;
    private static final int NONE = SawSums.NONE;
    private static final int MILLION = 1000000;
    private static final int BILLION = 1000000000;
    private static final int LEAST = Integer.MIN_VALUE;
    private static final int MOST = Integer.MAX_VALUE;
    private static final Check CHECK = new Check("edges of sums");
    private static final Fresh X = new Fresh();

    private SumsEdgesTest() {
    }

    public static void main(String[] args) {
        sawWithinItsBounds();
        sawBeyondItsBounds();
        sawOfWholes();
        sumWithinItsBounds();
        sumOfAnyH();
        sumBeyondItsBounds();
        both();
        three();
        threeBeyondItsBounds();
        above();
        chainOfOne();
        chainWithinItsBounds();
        chainRefused();
        minusWithinItsBounds();
        minusRefused();
        alike();
        alikeRefused();
        sorts();
        steps();
        stepsBeyondItsBounds();
        triangle();
        inside();
        pointsBeyondTheirBounds();
        pyramid();
        CHECK.finish();
    }

    private static void told(String call, long upper, long lower, long gotUpper, long gotLower) {
        CHECK.due(call + " upper", upper, gotUpper);
        CHECK.due(call + " lower", lower, gotLower);
    }

    // ---- promise 2

    private static void saw(int a, int b, long upper, long lower) {
        told("saw " + a + " " + b, upper, lower, X.one().saw(a, b, false), X.one().saw(a, b, true));
    }

    private static void sawWithinItsBounds() {
        saw(1, BILLION, -499999999, BILLION);
        saw(-1, BILLION, 499999999, BILLION);
        saw(1, -BILLION, 499999999, BILLION);
        saw(-1, -BILLION, -499999999, BILLION);
        saw(BILLION - 1, BILLION, 499999999, BILLION);
        saw(BILLION, BILLION - 1, -999999997, 1999999998);
        saw(-BILLION, BILLION - 1, 999999997, 1999999998);
        saw(BILLION, 1 - BILLION, 999999997, 1999999998);
        saw(-BILLION, 1 - BILLION, -999999997, 1999999998);
        saw(1, BILLION - 1, -999999997, 1999999998);
        saw(BILLION, 3, -1, 6);
        saw(-BILLION, 3, 1, 6);
        saw(3, 6, 0, 1);
        saw(1, -2, 0, 1);
        saw(2, 6, -1, 6);
        saw(3, 4, 1, 4);
    }

    private static void sawBeyondItsBounds() {
        for (int bad : new int[] {BILLION + 1, -BILLION - 1, LEAST, MOST}) {
            saw(bad, 1, NO, NO);
            saw(bad, 3, NO, NO);
            saw(1, bad, NO, NO);
            saw(bad, bad, NO, NO);
        }
        saw(1, 0, NO, NO);
        saw(0, 0, NO, NO);
        saw(BILLION, 0, NO, NO);
        saw(LEAST, 0, NO, NO);
        saw(LEAST, -1, NO, NO);
    }

    /** SAW is 0 if it is whole, and 0 is told as 0 and 1. */
    private static void sawOfWholes() {
        saw(0, 1, 0, 1);
        saw(0, -BILLION, 0, 1);
        saw(BILLION, 1, 0, 1);
        saw(BILLION, -1, 0, 1);
        saw(-BILLION, 1, 0, 1);
        saw(BILLION, BILLION, 0, 1);
        saw(BILLION, -BILLION, 0, 1);
        saw(BILLION, 500000000, 0, 1);
    }

    // ---- promise 3

    private static void sum(int h, int k, long upper, long lower) {
        told("sum " + h + " " + k, upper, lower, X.one().sum(h, k, false), X.one().sum(h, k, true));
    }

    private static void sumWithinItsBounds() {
        sum(0, 1, 0, 1);
        sum(7, 1, 0, 1);
        sum(1, 2, 0, 1);
        sum(1, 3, 1, 18);
        sum(6, 9, -1, 18);
        sum(0, BILLION, 0, 1);
        sum(1, BILLION, 166666666166666667L, 2000000000);
        sum(2, BILLION, 41666666416666667L, 1000000000);
        sum(3, BILLION, 11111110988888889L, 400000000);
        sum(500000000, BILLION, 0, 1);
        sum(BILLION - 1, BILLION, -166666666166666667L, 2000000000);
        sum(1, BILLION - 1, 499999997500000003L, 5999999994L);
        sum(433494437, 701408733, -133957148, 2104226199);
    }

    /** H of any size, which wraps around at k. */
    private static void sumOfAnyH() {
        sum(LEAST, 1, 0, 1);
        sum(MOST, 1, 0, 1);
        sum(3, 3, 0, 1);
        sum(4, 3, 1, 18);
        sum(-1, 3, -1, 18);
        sum(-3, 3, 0, 1);
        sum(-1, BILLION, -166666666166666667L, 2000000000);
        sum(BILLION, BILLION, 0, 1);
        sum(-BILLION, BILLION, 0, 1);
        sum(BILLION + 1, BILLION, 166666666166666667L, 2000000000);
        sum(MOST, BILLION, 89890321, 400000000);
        sum(LEAST, BILLION, -882029, 1953125);
        sum(MOST, BILLION - 1, -14407614179L, 5999999994L);
        sum(LEAST, BILLION - 1, -2866692095L, 5999999994L);
    }

    private static void sumBeyondItsBounds() {
        for (int bad : new int[] {0, -1, BILLION + 1, -BILLION, LEAST, MOST}) {
            sum(1, bad, NO, NO);
            sum(0, bad, NO, NO);
            sum(LEAST, bad, NO, NO);
        }
    }

    // ---- promise 4

    private static void both(int h, int k, long upper, long lower) {
        told("both " + h + " " + k, upper, lower, X.one().both(h, k, false), X.one().both(h, k, true));
    }

    private static void both() {
        both(1, 1, 0, 1);
        both(1, 30000, 449955001, 180000);
        both(30000, 1, 449955001, 180000);
        both(29999, 30000, -449984999, 5399820000L);
        both(30000, 30000, 0, 1);
        both(15000, 30000, 0, 1);
        for (int bad : new int[] {0, -1, 30001, LEAST, MOST}) {
            both(bad, 1, NO, NO);
            both(1, bad, NO, NO);
            both(30000, bad, NO, NO);
            both(bad, bad, NO, NO);
        }
    }

    // ---- promise 5

    private static void three(int a, int b, int c, long upper, long lower) {
        told("three " + a + " " + b + " " + c, upper, lower, X.one().three(a, b, c, false),
            X.one().three(a, b, c, true));
    }

    private static void three() {
        three(1, 1, 1, 0, 1);
        three(1, 1, 1000, 166167, 2000);
        three(1, 1000, 1, 166167, 2000);
        three(1000, 1, 1, 166167, 2000);
        three(2, 3, 5, -13, 90);
        three(1000, 999, 997, -298501699, 1195203600);
        three(997, 1000, 999, -298501699, 1195203600);
    }

    private static void threeBeyondItsBounds() {
        for (int bad : new int[] {0, -1, 1001, LEAST, MOST}) {
            three(bad, 1, 1, NO, NO);
            three(1, bad, 1, NO, NO);
            three(1, 1, bad, NO, NO);
        }
        // Two of them have a common divisor.
        three(2, 4, 3, NO, NO);
        three(3, 2, 4, NO, NO);
        three(2, 3, 4, NO, NO);
        three(1000, 1000, 1, NO, NO);
        three(1000, 1, 1000, NO, NO);
        three(1, 1000, 1000, NO, NO);
    }

    // ---- promise 6

    private static void above(int h, int k, int n, long want) {
        CHECK.due("above " + h + " " + k + " " + n, want, X.one().above(h, k, n));
    }

    private static void above() {
        above(1, 1, 1, 0);
        above(1, 1, 2, 0);
        above(1, 1, 3, 1);
        above(1, 1, 1000, 998);
        // Those that are as great are not above it.
        above(1, 5, 5, 0);
        above(1, 5, 6, 1);
        above(1, 4, 5, 1);
        above(0, 1000, 1000, 0);
        above(1, 1000, 1, 0);
        above(1, 1000, 1000, 0);
        above(1, 999, 1000, 1);
        above(-1, 1, 1000, 0);
        above(-1, 1000, 1000, 999);
        above(5, 5, 5, 1);
        above(LEAST, 1000, 1000, 362);
        above(MOST, 1000, 1000, 966);
        for (int bad : new int[] {0, -1, 1001, LEAST, MOST}) {
            above(1, bad, 5, NO);
            above(1, 5, bad, NO);
            above(1, bad, bad, NO);
        }
    }

    // ---- promise 7

    private static void chain(int h, int k, int i, int want) {
        CHECK.due("chain " + h + " " + k + " " + i, want, X.one().chain(h, k, i));
    }

    /** Of k 1 it is empty, whatever h is. */
    private static void chainOfOne() {
        for (int h : new int[] {0, 1, 5, -1, LEAST, MOST}) {
            chain(h, 1, NONE, 0);
            chain(h, 1, 0, NONE);
            chain(h, 1, 1, NONE);
        }
    }

    private static void chainWithinItsBounds() {
        chain(1, 2, NONE, 1);
        chain(1, 2, 0, 2);
        chain(1, 2, 1, NONE);
        chain(1, BILLION, NONE, 1);
        chain(1, BILLION, 0, BILLION);
        chain(1, BILLION, 1, NONE);
        chain(BILLION - 1, BILLION, NONE, 2);
        chain(BILLION - 1, BILLION, 0, 1);
        chain(BILLION - 1, BILLION, 1, BILLION - 1);
        chain(BILLION - 1, BILLION, 2, NONE);
        chain(433494437, 701408733, NONE, 42);
        chain(433494437, 701408733, 0, 1);
        chain(433494437, 701408733, 41, 2);
        chain(433494437, 701408733, 42, NONE);
        // H is brought to 0 to k - 1 first.
        chain(3, 2, 0, 2);
        chain(-1, BILLION, NONE, 2);
        chain(-1, BILLION, 1, BILLION - 1);
        chain(-3, 7, NONE, 3);
        chain(-3, 7, 2, 3);
        chain(MOST, BILLION, NONE, 20);
        chain(MOST, BILLION, 0, 6);
        chain(MOST, BILLION, 19, 2);
        chain(MOST, BILLION, 20, NONE);
        chain(LEAST, BILLION - 1, NONE, 21);
        chain(LEAST, BILLION - 1, 1, 5);
        chain(LEAST, 3, 0, 3);
    }

    private static void chainRefused() {
        for (int i : new int[] {NONE, 0, 1}) {
            for (int bad : new int[] {0, -1, BILLION + 1, -BILLION, LEAST, MOST}) {
                chain(1, bad, i, NONE);
                chain(0, bad, i, NONE);
            }
            // They have a common divisor.
            chain(2, 4, i, NONE);
            chain(0, 2, i, NONE);
            chain(2, 2, i, NONE);
            chain(0, BILLION, i, NONE);
            chain(BILLION, BILLION, i, NONE);
            chain(LEAST, BILLION, i, NONE);
            chain(-6, 9, i, NONE);
        }
        for (int i : new int[] {-2, LEAST, MOST}) {
            chain(3, 7, i, NONE);
            chain(0, 1, i, NONE);
        }
    }

    // ---- promise 8

    private static void minus(int h, int k, int i, int want) {
        CHECK.due("minus " + h + " " + k + " " + i, want, X.one().minus(h, k, i));
    }

    private static void minusWithinItsBounds() {
        for (int h : new int[] {0, 1, -1, LEAST, MOST}) {
            minus(h, 1, NONE, 0);
            minus(h, 1, 0, NONE);
        }
        minus(1, 2, NONE, 1);
        minus(1, 2, 0, 2);
        minus(1, 2, 1, NONE);
        minus(1, 10000, NONE, 1);
        minus(1, 10000, 0, 10000);
        minus(1, 10000, 1, NONE);
        minus(9999, 10000, NONE, 9999);
        minus(9999, 10000, 0, 2);
        minus(9999, 10000, 9998, 2);
        minus(9999, 10000, 9999, NONE);
        minus(9999, 10000, 10000, NONE);
        minus(-1, 10000, NONE, 9999);
        minus(3, 2, 0, 2);
        minus(-3, 7, NONE, 2);
        minus(-3, 7, 1, 4);
        minus(MOST, 10000, NONE, 27);
        minus(MOST, 10000, 2, 9);
        minus(MOST, 10000, 26, 2);
        minus(MOST, 10000, 27, NONE);
        minus(LEAST, 9999, NONE, 8);
        minus(LEAST, 9999, 0, 7);
        minus(LEAST, 9999, 7, 4);
        minus(LEAST, 9999, 8, NONE);
    }

    private static void minusRefused() {
        for (int i : new int[] {NONE, 0, 1}) {
            for (int bad : new int[] {0, -1, 10001, -10000, LEAST, MOST}) {
                minus(1, bad, i, NONE);
                minus(0, bad, i, NONE);
            }
            minus(2, 4, i, NONE);
            minus(0, 2, i, NONE);
            minus(2, 2, i, NONE);
            minus(0, 10000, i, NONE);
            minus(LEAST, 10000, i, NONE);
        }
        for (int i : new int[] {-2, LEAST, MOST}) {
            minus(3, 7, i, NONE);
            minus(0, 1, i, NONE);
        }
    }

    // ---- promise 9

    private static void alike(int h, int k, int... all) {
        String call = "alike " + h + " " + k + " ";
        CHECK.due(call + "how many", all.length, X.one().alike(h, k, NONE));
        for (int i = 0; i < all.length; i++) {
            CHECK.due(call + i, all[i], X.one().alike(h, k, i));
        }
        for (int i : new int[] {all.length, all.length + 1, 500, -2, LEAST, MOST}) {
            CHECK.due(call + i, NONE, X.one().alike(h, k, i));
        }
    }

    private static void alike() {
        for (int h : new int[] {0, 1, 7, -1, LEAST, MOST}) {
            alike(h, 1, 0);
        }
        alike(0, 2, 1);
        alike(1, 2, 1);
        alike(1, 500, 1);
        alike(-1, 500, 499);
        alike(500, 499, 1);
        alike(3, 499, 3, 333);
        alike(MOST, 500, 147, 483);
        alike(LEAST, 499, 245, 277);
        // H may have a common divisor with k, h' may not: then none may be like it.
        alike(2, 4);
        alike(0, 4);
        alike(250, 500);
        alike(0, 5, 2, 3);
        alike(5, 5, 2, 3);
    }

    private static void alikeRefused() {
        for (int bad : new int[] {0, -1, 501, -500, LEAST, MOST}) {
            for (int i : new int[] {NONE, 0, 1, -2, LEAST, MOST}) {
                CHECK.due("alike k " + bad, NONE, X.one().alike(1, bad, i));
                CHECK.due("alike k " + bad, NONE, X.one().alike(0, bad, i));
            }
        }
    }

    // ---- promise 10

    private static void sorts(int k, int unlike, int best) {
        CHECK.due("sorts " + k + " 0", unlike, X.one().sorts(k, 0));
        CHECK.due("sorts " + k + " 1", best, X.one().sorts(k, 1));
        for (int what : new int[] {-1, 2, -2, LEAST, MOST}) {
            CHECK.due("sorts " + k + " " + what, NONE, X.one().sorts(k, what));
        }
    }

    private static void sorts() {
        sorts(1, 1, 0);
        sorts(2, 1, 1);
        sorts(3, 2, 1);
        sorts(5, 3, 1);
        sorts(499, 250, 1);
        sorts(500, 78, 1);
        for (int bad : new int[] {0, -1, 501, -500, LEAST, MOST}) {
            sorts(bad, NONE, NONE);
        }
    }

    // ---- promise 11

    private static void steps(int a, int b, int m, int n, long want) {
        CHECK.due("steps " + a + " " + b + " " + m + " " + n, want, X.one().steps(a, b, m, n));
    }

    private static void steps() {
        steps(7, 3, 5, 0, 0);
        steps(-MILLION, -MILLION, 1, 0, 0);
        steps(7, 3, 5, 1, 0);
        // Downwards, also below 0.
        steps(7, -3, 5, 1, -1);
        steps(-1, -1, MILLION, 1, -1);
        steps(0, -1, MILLION, 100000, -100000);
        steps(-1, 0, MILLION, 100000, -99999);
        steps(1, -1, MILLION, 100000, -1);
        steps(MILLION, -MILLION, 1, 2, -MILLION);
        steps(-MILLION, MILLION, 1, 2, MILLION);
        steps(0, MILLION, 1, 100000, 100000000000L);
        steps(MILLION, MILLION, 1, 100000, 5000050000000000L);
        steps(-MILLION, -MILLION, 1, 100000, -5000050000000000L);
        steps(MILLION, MILLION, MILLION, 100000, 5000050000L);
        steps(-MILLION, -MILLION, MILLION, 100000, -5000050000L);
        steps(999999, -1, MILLION, 100000, 4999850000L);
    }

    private static void stepsBeyondItsBounds() {
        for (int bad : new int[] {MILLION + 1, -MILLION - 1, LEAST, MOST}) {
            steps(bad, 0, 1, 1, NO);
            steps(0, bad, 1, 1, NO);
            steps(bad, 0, 1, 0, NO);
        }
        for (int bad : new int[] {0, -1, MILLION + 1, LEAST, MOST}) {
            steps(1, 0, bad, 1, NO);
            steps(1, 0, bad, 0, NO);
        }
        for (int bad : new int[] {-1, 100001, LEAST, MOST}) {
            steps(1, 0, 1, bad, NO);
        }
    }

    // ---- promises 12 and 13

    private static void triangle(int a, int b, int c, long want) {
        CHECK.due("triangle " + a + " " + b + " " + c, want, X.one().triangle(a, b, c));
    }

    private static void inside(int a, int b, int c, long want) {
        CHECK.due("inside " + a + " " + b + " " + c, want, X.one().inside(a, b, c));
    }

    private static void triangle() {
        triangle(1, 1, 0, 1);
        triangle(MILLION, MILLION, 0, 1);
        triangle(MILLION, MILLION, MILLION - 1, 1);
        // A point on the line counts.
        triangle(MILLION, MILLION, MILLION, 3);
        triangle(1, 1, 1, 3);
        triangle(MILLION, 1, MILLION, 1000002);
        triangle(1, MILLION, MILLION, 1000002);
        triangle(MILLION, MILLION, BILLION, 501501);
        triangle(MILLION - 1, MILLION, BILLION, 501501);
        triangle(MILLION, 1, BILLION, 500500001001L);
        triangle(1, MILLION, BILLION, 500500001001L);
        triangle(1, 1, BILLION, 500000001500000001L);
    }

    private static void inside() {
        inside(1, 1, 0, 0);
        inside(1, 1, 1, 0);
        // A point on the line does not count.
        inside(1, 1, 2, 0);
        inside(1, 1, 3, 1);
        inside(2, 3, 7, 1);
        inside(2, 3, 8, 2);
        inside(MILLION, MILLION, 0, 0);
        inside(MILLION, MILLION, 2 * MILLION, 0);
        inside(MILLION, MILLION, 2 * MILLION + 1, 1);
        inside(MILLION, 1, MILLION + 1, 0);
        inside(MILLION, 1, MILLION + 2, 1);
        inside(MILLION, MILLION, BILLION, 498501);
        inside(MILLION - 1, MILLION, BILLION, 499500);
        inside(MILLION, 1, BILLION, 499499999001L);
        inside(1, 1, BILLION, 499999998500000001L);
    }

    private static void pointsBeyondTheirBounds() {
        for (int bad : new int[] {0, -1, MILLION + 1, LEAST, MOST}) {
            triangle(bad, 1, 5, NO);
            triangle(1, bad, 5, NO);
            triangle(bad, bad, 0, NO);
            inside(bad, 1, 5, NO);
            inside(1, bad, 5, NO);
            inside(bad, bad, 0, NO);
        }
        for (int bad : new int[] {-1, BILLION + 1, LEAST, MOST}) {
            triangle(1, 1, bad, NO);
            triangle(MILLION, MILLION, bad, NO);
            inside(1, 1, bad, NO);
            inside(MILLION, MILLION, bad, NO);
        }
    }

    // ---- promise 14

    private static void pyramid(int a, int b, int c, long want) {
        CHECK.due("pyramid " + a + " " + b + " " + c, want, X.one().pyramid(a, b, c));
    }

    private static void pyramid() {
        pyramid(1, 1, 1, 4);
        pyramid(300, 1, 1, 303);
        pyramid(1, 300, 1, 303);
        pyramid(1, 1, 300, 303);
        pyramid(1, 300, 300, 45452);
        pyramid(2, 3, 6, 23);
        pyramid(300, 299, 298, 4522452);
        pyramid(300, 300, 300, 4590551);
        for (int bad : new int[] {0, -1, 301, LEAST, MOST}) {
            pyramid(bad, 1, 1, NO);
            pyramid(1, bad, 1, NO);
            pyramid(1, 1, bad, NO);
            pyramid(bad, bad, bad, NO);
        }
    }
}
