import java.math.BigInteger;
import java.util.ArrayList;
import java.util.List;
import java.util.NoSuchElementException;
import java.util.Random;

/** Promises 1 and 15 to 24. */
public final class MatrixTest {
    private static final long NO = SawSums.NO_NUMBER;
    private static final int NONE = SawSums.NONE;
    private static final int BILLION = 1000000000;
    private static final Check CHECK = new Check("matrix");

    private MatrixTest() {
    }

    public static void main(String[] args) {
        newObject();
        of();
        set();
        turn();
        shift();
        times();
        invert();
        numbers();
        order();
        walk();
        CHECK.finish();
    }

    private static void is(String what, SawSums x, long a, long b, long c, long d) {
        CHECK.due(what + " a", a, x.of(0));
        CHECK.due(what + " b", b, x.of(1));
        CHECK.due(what + " c", c, x.of(2));
        CHECK.due(what + " d", d, x.of(3));
    }

    private static SawSums with(int a, int b, int c, int d) {
        SawSums x = new SawSums();
        CHECK.yes("set " + a + " " + b + " " + c + " " + d, x.set(a, b, c, d));
        is("set", x, a, b, c, d);
        return x;
    }

    private static void newObject() {
        is("new object", new SawSums(), 1, 0, 0, 1);
        SawSums moved = new SawSums();
        moved.shift(5);
        is("another object", new SawSums(), 1, 0, 0, 1);
    }

    private static void of() {
        SawSums x = with(2, 5, 1, 3);
        for (int what : new int[] {-1, 4, 5, Integer.MIN_VALUE, Integer.MAX_VALUE}) {
            boolean thrown = false;
            try {
                x.of(what);
            } catch (NoSuchElementException e) {
                thrown = true;
            }
            CHECK.yes("of " + what + " throws", thrown);
        }
        is("behind the throws", x, 2, 5, 1, 3);
    }

    private static void set() {
        SawSums x = with(7, 3, 2, 1);
        int[][] none = {{2, 1, 1, 2}, {0, 0, 0, 0}, {1, 0, 0, -1}, {BILLION + 1, BILLION, 1, 1},
            {1, BILLION + 1, 0, 1}, {1, 0, BILLION + 1, 1}, {1, 1, BILLION, BILLION + 1},
            {1, -BILLION - 1, 0, 1}, {Integer.MIN_VALUE, 0, 0, Integer.MIN_VALUE},
            {Integer.MAX_VALUE, 0, 0, Integer.MAX_VALUE}, {65536, 65535, 65536, 65536}, {0, 1, 1, 0}};
        for (int[] row : none) {
            CHECK.no("set " + row[0] + " " + row[1] + " " + row[2] + " " + row[3], x.set(row[0], row[1], row[2], row[3]));
            is("set to none", x, 7, 3, 2, 1);
        }
        with(7, 3, 2, 1).set(7, 3, 2, 1);
        CHECK.yes("set to what it is", x.set(7, 3, 2, 1));
        with(BILLION, BILLION - 1, 1, 1);
        with(BILLION, -BILLION + 1, -1, 1).invert();
        with(-BILLION, -BILLION + 1, -1, -1);
        with(1, BILLION, 0, 1);
        with(1, -BILLION, 0, 1);
        with(-1, BILLION, 0, -1);
        with(1, 0, BILLION, 1);
        with(1, 0, -BILLION, 1);
        with(1, -1, 1 - BILLION, BILLION);
        with(BILLION - 1, BILLION, BILLION - 2, BILLION - 1);
    }

    private static void turn() {
        SawSums x = with(2, 5, 1, 3);
        CHECK.yes("turn", x.turn());
        is("turned", x, 5, -2, 3, -1);
        CHECK.yes("turn", x.turn());
        is("turned twice", x, -2, -5, -1, -3);
        SawSums edge = with(-BILLION, -BILLION + 1, -1, -1);
        CHECK.yes("turn at the bounds", edge.turn());
        is("turned at the bounds", edge, -BILLION + 1, BILLION, -1, 1);
    }

    private static void shift() {
        SawSums x = with(2, 5, 1, 3);
        CHECK.yes("shift 4", x.shift(4));
        is("shifted", x, 2, 13, 1, 7);
        CHECK.yes("shift -4", x.shift(-4));
        is("shifted back", x, 2, 5, 1, 3);
        CHECK.no("shift too far", x.shift(500000000));
        CHECK.no("shift by the least", x.shift(Integer.MIN_VALUE));
        CHECK.no("shift by the greatest", x.shift(Integer.MAX_VALUE));
        is("it stays", x, 2, 5, 1, 3);
        CHECK.yes("shift 0", x.shift(0));
        is("shifted by 0", x, 2, 5, 1, 3);
        SawSums one = new SawSums();
        CHECK.yes("shift 10^9", one.shift(BILLION));
        is("at the bound", one, 1, BILLION, 0, 1);
        CHECK.no("shift 1 more", one.shift(1));
        CHECK.yes("shift -2 10^9", one.shift(-2 * BILLION));
        is("at the other bound", one, 1, -BILLION, 0, 1);
        CHECK.no("shift -1 more", one.shift(-1));
        SawSums lower = with(0, -1, 1, BILLION);
        CHECK.no("lower number beyond", lower.shift(1));
        is("it stays", lower, 0, -1, 1, BILLION);
    }

    private static void times() {
        SawSums x = with(2, 5, 1, 3);
        CHECK.yes("times", x.times(3, 4, 2, 3));
        is("times", x, 16, 23, 9, 13);
        CHECK.no("times none", x.times(1, 1, 1, 1));
        CHECK.no("times beyond the bounds", x.times(1, BILLION + 1, 0, 1));
        is("it stays", x, 16, 23, 9, 13);
        CHECK.no("times too great", x.times(BILLION, BILLION - 1, 1, 1));
        CHECK.no("times too great", x.times(BILLION - 1, BILLION, BILLION - 2, BILLION - 1));
        is("it stays", x, 16, 23, 9, 13);
        SawSums edge = with(BILLION - 1, BILLION, BILLION - 2, BILLION - 1);
        CHECK.no("greatest products", edge.times(BILLION - 1, BILLION, BILLION - 2, BILLION - 1));
        CHECK.no("least products", edge.times(1 - BILLION, -BILLION, 2 - BILLION, 1 - BILLION));
        CHECK.yes("back to 1", edge.times(BILLION - 1, -BILLION, 2 - BILLION, BILLION - 1));
        is("back to 1", edge, 1, 0, 0, 1);
        // A shift by more than 10^9 is none of the MATRICES, though what comes out would be within the bounds.
        SawSums far = with(1, BILLION, 0, 1);
        CHECK.no("times a far shift", far.times(1, -BILLION - 1, 0, 1));
        is("it stays", far, 1, BILLION, 0, 1);
    }

    private static void invert() {
        SawSums x = with(2, 5, 1, 3);
        CHECK.yes("invert", x.invert());
        is("inverted", x, 3, -5, -1, 2);
        CHECK.yes("times", x.times(2, 5, 1, 3));
        is("back", x, 1, 0, 0, 1);
        SawSums edge = with(-BILLION, -BILLION + 1, -1, -1);
        CHECK.yes("invert", edge.invert());
        is("inverted", edge, -1, BILLION - 1, 1, -BILLION);
    }

    private static Exact companion(long a, long b, long c, long d) {
        if (c == 0) {
            return Exact.of(b, d);
        }
        Exact sum = Exact.sum(d, Math.abs(c)).times(Exact.of(12 * Long.signum(c), 1));
        return Exact.of(a + d, c).minus(sum);
    }

    private static List<BigInteger> wordOf(long a, long b, long c, long d) {
        BigInteger[] m = {BigInteger.valueOf(a), BigInteger.valueOf(b), BigInteger.valueOf(c), BigInteger.valueOf(d)};
        List<BigInteger> word = new ArrayList<>();
        while (m[2].signum() != 0) {
            BigInteger n = new Exact(m[0].add(m[0]).add(m[2]), m[2].add(m[2])).floor().upper;
            word.add(n);
            BigInteger[] shifted = {m[0].subtract(n.multiply(m[2])), m[1].subtract(n.multiply(m[3])), m[2], m[3]};
            m = new BigInteger[] {shifted[2], shifted[3], shifted[0].negate(), shifted[1].negate()};
        }
        word.add(m[1].multiply(m[3]));
        return word;
    }

    private static int orderOf(long a, long b, long c, long d) {
        BigInteger[] one = {BigInteger.valueOf(a), BigInteger.valueOf(b), BigInteger.valueOf(c), BigInteger.valueOf(d)};
        BigInteger[] m = {BigInteger.ONE, BigInteger.ZERO, BigInteger.ZERO, BigInteger.ONE};
        for (int n = 1; n <= 12; n++) {
            m = new BigInteger[] {m[0].multiply(one[0]).add(m[1].multiply(one[2])),
                m[0].multiply(one[1]).add(m[1].multiply(one[3])),
                m[2].multiply(one[0]).add(m[3].multiply(one[2])),
                m[2].multiply(one[1]).add(m[3].multiply(one[3]))};
            if (m[0].equals(BigInteger.ONE) && m[1].signum() == 0 && m[2].signum() == 0 && m[3].equals(BigInteger.ONE)) {
                return n;
            }
        }
        return NONE;
    }

    /** All that is told of a MATRIX. */
    private static void look(SawSums x) {
        long a = x.of(0);
        long b = x.of(1);
        long c = x.of(2);
        long d = x.of(3);
        String what = a + " " + b + " " + c + " " + d + " ";
        Exact phi = companion(a, b, c, d);
        CHECK.yes(what + "phi is whole", phi.isWhole());
        CHECK.due(what + "phi", phi.part(false), x.phi(0));
        CHECK.due(what + "psi", phi.part(false) - 3 * Long.signum(c * (a + d)), x.phi(1));
        long size = Math.abs(a + d);
        CHECK.due(what + "kind", size < 2 ? 0 : size == 2 ? 1 : 2, x.kind());
        CHECK.due(what + "order", orderOf(a, b, c, d), x.order());
        List<BigInteger> word = wordOf(a, b, c, d);
        CHECK.due(what + "word", word.size(), x.word(NONE));
        for (int i = 0; i < word.size(); i++) {
            CHECK.due(what + "word " + i, word.get(i).longValueExact(), x.word(i));
        }
        for (int i : new int[] {word.size(), word.size() + 1, -2, Integer.MIN_VALUE, Integer.MAX_VALUE}) {
            CHECK.due(what + "word " + i, NO, x.word(i));
        }
        is("it is as it was", x, a, b, c, d);
    }

    private static void numbers() {
        look(new SawSums());
        int[][] rows = {{-1, 0, 0, -1}, {1, BILLION, 0, 1}, {1, -BILLION, 0, 1}, {-1, BILLION, 0, -1},
            {-1, -BILLION, 0, -1}, {1, 0, BILLION, 1}, {1, 0, -BILLION, 1}, {-1, 0, BILLION, -1},
            {BILLION, BILLION - 1, 1, 1}, {BILLION - 1, BILLION, BILLION - 2, BILLION - 1},
            {1, 1, BILLION - 1, BILLION}, {-BILLION, -BILLION + 1, -1, -1}, {0, -1, 1, BILLION},
            {0, 1, -1, BILLION}, {BILLION, -1, 1, 0}, {-BILLION, -1, 1, 0}, {-BILLION, 1, -1, 0},
            {433494437, 701408733, 267914296, 433494437}, {433494437, 267914296, 701408733, 433494437},
            {1, 1, 0, 1}, {1, 0, 1, 1}, {1, 0, 2, 1}, {1, 0, -2, 1}, {3, 1, 2, 1}, {-3, 1, 2, -1}, {5, 2, 2, 1}};
        for (int[] row : rows) {
            look(with(row[0], row[1], row[2], row[3]));
        }
        for (int what : new int[] {-1, 2, Integer.MIN_VALUE, Integer.MAX_VALUE}) {
            CHECK.due("phi " + what, NO, with(2, 5, 1, 3).phi(what));
        }
        CHECK.due("greatest phi", 1000000001, with(BILLION, BILLION - 1, 1, 1).phi(0));
        CHECK.due("phi of -1 -10^9 0 -1", BILLION, with(-1, -BILLION, 0, -1).phi(0));
    }

    private static void order() {
        int[] found = new int[13];
        for (int a = -4; a <= 4; a++) {
            for (int b = -12; b <= 12; b++) {
                for (int c = -12; c <= 12; c++) {
                    for (int d = -4; d <= 4; d++) {
                        SawSums x = new SawSums();
                        boolean is = a * d - b * c == 1;
                        CHECK.yes("set as it must be", x.set(a, b, c, d) == is);
                        if (is) {
                            look(x);
                            found[Math.max(0, x.order())]++;
                        }
                    }
                }
            }
        }
        for (int n : new int[] {0, 1, 2, 3, 4, 6}) {
            CHECK.yes("order " + n + " was met", found[n] > 0);
        }
    }

    /** Long ways of random steps, each told ahead in numbers of any size. */
    private static void walk() {
        Random random = new Random(11);
        for (int run = 0; run < 300; run++) {
            SawSums x = new SawSums();
            long[] m = {1, 0, 0, 1};
            for (int step = 0; step < 40; step++) {
                int sort = random.nextInt(6);
                long[] by = {0, -1, 1, 0};
                boolean done;
                if (sort == 0) {
                    done = x.turn();
                } else if (sort == 1) {
                    CHECK.yes("invert", x.invert());
                    m = new long[] {m[3], -m[1], -m[2], m[0]};
                    is("walk", x, m[0], m[1], m[2], m[3]);
                    continue;
                } else if (sort == 2) {
                    int n = random.nextInt(7) - 3;
                    by = new long[] {1 + n * 2L, n, 2, 1};
                    done = x.times(1 + n * 2, n, 2, 1);
                } else {
                    int n = sort == 3 ? random.nextInt() : random.nextInt(41) - 20;
                    by = new long[] {1, n, 0, 1};
                    done = x.shift(n);
                }
                long[] next = {m[0] * by[0] + m[1] * by[2], m[0] * by[1] + m[1] * by[3],
                    m[2] * by[0] + m[3] * by[2], m[2] * by[1] + m[3] * by[3]};
                boolean within = true;
                for (long number : next) {
                    within &= Math.abs(number) <= BILLION;
                }
                CHECK.yes("the step was told", done == within);
                m = within ? next : m;
                is("walk", x, m[0], m[1], m[2], m[3]);
            }
            look(x);
        }
    }
}
