import java.math.BigInteger;
import java.util.Random;

/** Promises 11 to 14. */
public final class PointsTest {
    private static final long NO = SawSums.NO_NUMBER;
    private static final int MILLION = 1000000;
    private static final int BILLION = 1000000000;
    private static final Check CHECK = new Check("points");
    private static final Fresh X = new Fresh();

    private PointsTest() {
    }

    public static void main(String[] args) {
        steps();
        triangle();
        inside();
        pyramid();
        CHECK.finish();
    }

    private static void steps(int a, int b, int m, int n) {
        long want = 0;
        for (int i = 0; i < n; i++) {
            want += Math.floorDiv((long) a * i + b, (long) m);
        }
        CHECK.due("steps " + a + " " + b + " " + m + " " + n, want, X.one().steps(a, b, m, n));
    }

    private static void steps() {
        for (int a = -7; a <= 7; a++) {
            for (int b = -9; b <= 9; b += 3) {
                for (int m = 1; m <= 6; m++) {
                    for (int n = 0; n <= 9; n++) {
                        steps(a, b, m, n);
                    }
                }
            }
        }
        int[] edges = {-MILLION, MILLION, 0, 1, -1, 999983, -999983};
        for (int a : edges) {
            for (int b : edges) {
                for (int m : new int[] {1, 2, 999999, MILLION}) {
                    steps(a, b, m, 100000);
                    steps(a, b, m, 1);
                    steps(a, b, m, 0);
                }
            }
        }
        Random random = new Random(5);
        for (int i = 0; i < 300; i++) {
            steps(random.nextInt(2 * MILLION + 1) - MILLION, random.nextInt(2 * MILLION + 1) - MILLION,
                1 + random.nextInt(MILLION), random.nextInt(100001));
        }
        for (int bad : new int[] {MILLION + 1, -MILLION - 1, Integer.MIN_VALUE, Integer.MAX_VALUE}) {
            CHECK.due("steps a " + bad, NO, X.one().steps(bad, 0, 2, 5));
            CHECK.due("steps b " + bad, NO, X.one().steps(1, bad, 2, 5));
            CHECK.due("steps m " + bad, NO, X.one().steps(1, 0, bad, 5));
            CHECK.due("steps n " + bad, NO, X.one().steps(1, 0, 2, bad));
        }
        CHECK.due("steps m 0", NO, X.one().steps(1, 0, 0, 5));
        CHECK.due("steps m -1", NO, X.one().steps(1, 0, -1, 5));
        CHECK.due("steps n -1", NO, X.one().steps(1, 0, 2, -1));
        CHECK.due("steps n 100001", NO, X.one().steps(1, 0, 2, 100001));
    }

    private static BigInteger big(long number) {
        return BigInteger.valueOf(number);
    }

    /** The sum of (a i + b) by m over i from 0 to n - 1, of numbers from 0 on, by the book. */
    private static BigInteger floors(BigInteger a, BigInteger b, BigInteger m, BigInteger n) {
        if (n.signum() == 0) {
            return BigInteger.ZERO;
        }
        BigInteger total = n.multiply(n.subtract(BigInteger.ONE)).shiftRight(1).multiply(a.divide(m))
            .add(n.multiply(b.divide(m)));
        BigInteger rest = a.mod(m);
        BigInteger start = b.mod(m);
        if (rest.signum() == 0) {
            return total;
        }
        // Points below the line, by rows: row j (1 on) starts at the least i with rest i + start >= j m.
        BigInteger rows = rest.multiply(n.subtract(BigInteger.ONE)).add(start).divide(m);
        BigInteger starts = floors(m, m.subtract(start).add(rest).subtract(BigInteger.ONE), rest, rows);
        return total.add(rows.multiply(n)).subtract(starts);
    }

    private static long points(long a, long b, long c) {
        if (c < 0) {
            return 0;
        }
        BigInteger columns = big(c / a + 1);
        return floors(big(a), big(c % a), big(b), columns).add(columns).longValueExact();
    }

    private static long slowPoints(int a, int b, int c) {
        long found = 0;
        for (int x = 0; a * x <= c; x++) {
            for (int y = 0; a * x + b * y <= c; y++) {
                found++;
            }
        }
        return found;
    }

    private static void triangle() {
        for (int a = 1; a <= 9; a++) {
            for (int b = 1; b <= 9; b++) {
                for (int c = 0; c <= 40; c++) {
                    CHECK.due("oracles alike", slowPoints(a, b, c), points(a, b, c));
                    CHECK.due("triangle " + a + " " + b + " " + c, slowPoints(a, b, c), X.one().triangle(a, b, c));
                }
            }
        }
        Random random = new Random(7);
        int[] edges = {1, 2, 3, 999983, 999999, MILLION};
        for (int a : edges) {
            for (int b : edges) {
                for (int c : new int[] {0, 1, MILLION, BILLION - 1, BILLION}) {
                    CHECK.due("triangle " + a + " " + b + " " + c, points(a, b, c), X.one().triangle(a, b, c));
                }
            }
        }
        for (int i = 0; i < 2000; i++) {
            int a = 1 + random.nextInt(i % 2 == 0 ? MILLION : 50);
            int b = 1 + random.nextInt(i % 3 == 0 ? MILLION : 50);
            int c = random.nextInt(BILLION + 1);
            CHECK.due("triangle " + a + " " + b + " " + c, points(a, b, c), X.one().triangle(a, b, c));
            CHECK.due("inside " + a + " " + b + " " + c, points(a, b, (long) c - a - b - 1), X.one().inside(a, b, c));
        }
        for (int bad : new int[] {0, -1, MILLION + 1, Integer.MIN_VALUE, Integer.MAX_VALUE}) {
            CHECK.due("triangle a " + bad, NO, X.one().triangle(bad, 1, 5));
            CHECK.due("triangle b " + bad, NO, X.one().triangle(1, bad, 5));
            CHECK.due("inside a " + bad, NO, X.one().inside(bad, 1, 5));
            CHECK.due("inside b " + bad, NO, X.one().inside(1, bad, 5));
        }
        for (int bad : new int[] {-1, BILLION + 1, Integer.MIN_VALUE, Integer.MAX_VALUE}) {
            CHECK.due("triangle c " + bad, NO, X.one().triangle(1, 1, bad));
            CHECK.due("inside c " + bad, NO, X.one().inside(1, 1, bad));
        }
    }

    private static void inside() {
        for (int a = 1; a <= 9; a++) {
            for (int b = 1; b <= 9; b++) {
                for (int c = 0; c <= 40; c++) {
                    long want = 0;
                    for (int x = 1; a * x < c; x++) {
                        for (int y = 1; a * x + b * y < c; y++) {
                            want++;
                        }
                    }
                    CHECK.due("inside " + a + " " + b + " " + c, want, X.one().inside(a, b, c));
                }
            }
        }
        CHECK.due("inside 1 1 10^9", 499999998500000001L, X.one().inside(1, 1, BILLION));
        CHECK.due("inside 10^6 10^6 0", 0, X.one().inside(MILLION, MILLION, 0));
        CHECK.due("inside 10^6 10^6 2 10^6", 0, X.one().inside(MILLION, MILLION, 2 * MILLION));
        CHECK.due("inside 10^6 10^6 2 10^6 + 1", 1, X.one().inside(MILLION, MILLION, 2 * MILLION + 1));
    }

    private static void pyramid(int a, int b, int c) {
        long want = 0;
        for (int x = 0; x <= a; x++) {
            for (int y = 0; y <= b; y++) {
                long left = (long) a * b - (long) x * b - (long) y * a;
                if (left >= 0) {
                    want += left * c / ((long) a * b) + 1;
                }
            }
        }
        CHECK.due("pyramid " + a + " " + b + " " + c, want, X.one().pyramid(a, b, c));
    }

    private static void pyramid() {
        for (int a = 1; a <= 8; a++) {
            for (int b = 1; b <= 8; b++) {
                for (int c = 1; c <= 8; c++) {
                    pyramid(a, b, c);
                }
            }
        }
        int[] edges = {1, 2, 293, 299, 300};
        for (int a : edges) {
            for (int b : edges) {
                for (int c : edges) {
                    pyramid(a, b, c);
                }
            }
        }
        for (int bad : new int[] {0, -1, 301, Integer.MIN_VALUE, Integer.MAX_VALUE}) {
            CHECK.due("pyramid a " + bad, NO, X.one().pyramid(bad, 1, 1));
            CHECK.due("pyramid b " + bad, NO, X.one().pyramid(1, bad, 1));
            CHECK.due("pyramid c " + bad, NO, X.one().pyramid(1, 1, bad));
        }
    }
}
