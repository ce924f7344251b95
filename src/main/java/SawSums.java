import java.util.NoSuchElementException;

/**
 * Sums of saws: sawtooth sums and their chains, points below lines, matrices of
 * determinant 1, rings, and sums told as texts.
 */
public final class SawSums {
    /** There is none. */
    public static final int NONE = -1;
    /** Told where a number below 0 may be one. */
    public static final long NO_NUMBER = -4000000000000000000L;

    private static final int GREATEST = 1000000000;
    private static final int GREATEST_OF_BOTH = 30000;
    private static final int GREATEST_OF_THREE = 1000;
    private static final int GREATEST_ABOVE = 1000;
    private static final int GREATEST_MINUS = 10000;
    private static final int GREATEST_ALIKE = 500;
    private static final int GREATEST_SLOPE = 1000000;
    private static final int MOST_STEPS = 100000;
    private static final int GREATEST_EDGE = 300;
    private static final int GREATEST_RING = 1000;
    private static final int LONGEST_TAPE = 300;
    private static final int BYTES_FED = 20;
    // Euclid's steps on longs stay below 100, so this bound is never met.
    private static final int EUCLID_STEPS = 200;

    private final Matrix matrix;
    private final Classes classes;
    private final long[] values;
    private final byte[] tape;
    private final Reader reader;
    private int tapeLength;
    private Fraction latest;
    private int sumsTold;
    private int sawSumsInLatest;

    public SawSums() {
        matrix = new Matrix();
        classes = new Classes();
        values = new long[GREATEST_ALIKE];
        tape = new byte[LONGEST_TAPE];
        reader = new Reader(tape, matrix);
        tapeLength = 0;
        latest = new Fraction(0, 1);
        sumsTold = 0;
        sawSumsInLatest = 0;
    }

    // ---- sums

    public long saw(int a, int b, boolean under) {
        if (!lies(a, -GREATEST, GREATEST) || !lies(b, -GREATEST, GREATEST) || b == 0) {
            return NO_NUMBER;
        }
        return new Fraction(b < 0 ? -a : a, Math.abs(b)).sawOf().part(under);
    }

    public long sum(int h, int k, boolean under) {
        if (!lies(k, 1, GREATEST)) {
            return NO_NUMBER;
        }
        return Fraction.ofSawSum(h, k).part(under);
    }

    public long both(int h, int k, boolean under) {
        if (!lies(h, 1, GREATEST_OF_BOTH) || !lies(k, 1, GREATEST_OF_BOTH)) {
            return NO_NUMBER;
        }
        long upper = Whole.twelfths(h, k) * h + Whole.twelfths(k, h) * k;
        return new Fraction(upper, 12L * h * k).part(under);
    }

    public long three(int a, int b, int c, boolean under) {
        if (!areThree(a, b, c)) {
            return NO_NUMBER;
        }
        long ofC = Whole.twelfths(a * Whole.inverse(b, c), c);
        long ofA = Whole.twelfths(b * Whole.inverse(c, a), a);
        long ofB = Whole.twelfths(c * Whole.inverse(a, b), b);
        long upper = ofC * a * b + ofA * b * c + ofB * a * c;
        return new Fraction(upper, 12L * a * b * c).part(under);
    }

    private static boolean areThree(int a, int b, int c) {
        return lies(a, 1, GREATEST_OF_THREE) && lies(b, 1, GREATEST_OF_THREE)
            && lies(c, 1, GREATEST_OF_THREE) && Whole.divisor(a, b) == 1
            && Whole.divisor(b, c) == 1 && Whole.divisor(a, c) == 1;
    }

    public long above(int h, int k, int n) {
        if (!lies(k, 1, GREATEST_ABOVE) || !lies(n, 1, GREATEST_ABOVE)) {
            return NO_NUMBER;
        }
        long bar = Whole.twelfths(h, k);
        long found = 0;
        for (int other = 1; other <= n; other++) {
            if (Whole.twelfths(h, other) * k > bar * other) {
                found++;
            }
        }
        return found;
    }

    public int chain(int h, int k, int i) {
        if (!lies(k, 1, GREATEST) || Whole.divisor(h, k) != 1) {
            return NONE;
        }
        int upper = Math.floorMod(h, k);
        int lower = k;
        int length = 0;
        for (; length < EUCLID_STEPS && upper != 0; length++) {
            if (length == i) {
                return lower / upper;
            }
            int rest = lower % upper;
            lower = upper;
            upper = rest;
        }
        return i == NONE ? length : NONE;
    }

    public int minus(int h, int k, int i) {
        if (!lies(k, 1, GREATEST_MINUS) || Whole.divisor(h, k) != 1) {
            return NONE;
        }
        int upper = Math.floorMod(h, k);
        int lower = k;
        int length = 0;
        for (; length < GREATEST_MINUS && upper != 0; length++) {
            int link = (lower + upper - 1) / upper;
            if (length == i) {
                return link;
            }
            int rest = link * upper - lower;
            lower = upper;
            upper = rest;
        }
        return i == NONE ? length : NONE;
    }

    public int alike(int h, int k, int i) {
        if (!lies(k, 1, GREATEST_ALIKE)) {
            return NONE;
        }
        long wanted = Whole.twelfths(h, k);
        int found = 0;
        for (int other = 0; other < k; other++) {
            if (Whole.divisor(other, k) == 1 && Whole.twelfths(other, k) == wanted) {
                if (found == i) {
                    return other;
                }
                found++;
            }
        }
        return i == NONE ? found : NONE;
    }

    public int sorts(int k, int what) {
        if (!lies(k, 1, GREATEST_ALIKE)) {
            return NONE;
        }
        switch (what) {
            case 0:
                return unlikeSums(k);
            case 1:
                return firstWithGreatestSum(k);
            default:
                return NONE;
        }
    }

    private int unlikeSums(int k) {
        int length = 0;
        for (int h = 0; h < k; h++) {
            if (length < values.length && Whole.divisor(h, k) == 1) {
                values[length] = Whole.twelfths(h, k);
                length++;
            }
        }
        return Whole.unlike(values, length);
    }

    private static int firstWithGreatestSum(int k) {
        int best = NONE;
        long greatest = 0;
        for (int h = 0; h < k; h++) {
            if (Whole.divisor(h, k) == 1) {
                long value = Whole.twelfths(h, k);
                if (best == NONE || value > greatest) {
                    best = h;
                    greatest = value;
                }
            }
        }
        return best;
    }

    // ---- points

    public long steps(int a, int b, int m, int n) {
        if (!lies(a, -GREATEST_SLOPE, GREATEST_SLOPE) || !lies(b, -GREATEST_SLOPE, GREATEST_SLOPE)
            || !lies(m, 1, GREATEST_SLOPE) || !lies(n, 0, MOST_STEPS)) {
            return NO_NUMBER;
        }
        return Whole.floorSum(a, b, m, n);
    }

    public long triangle(int a, int b, int c) {
        return isTriangle(a, b, c) ? Whole.pointsBelow(a, b, c) : NO_NUMBER;
    }

    public long inside(int a, int b, int c) {
        // Each of x and y less 1 brings this to the points of triangle.
        return isTriangle(a, b, c) ? Whole.pointsBelow(a, b, (long) c - 1 - a - b) : NO_NUMBER;
    }

    private static boolean isTriangle(int a, int b, int c) {
        return lies(a, 1, GREATEST_SLOPE) && lies(b, 1, GREATEST_SLOPE) && lies(c, 0, GREATEST);
    }

    public long pyramid(int a, int b, int c) {
        if (!lies(a, 1, GREATEST_EDGE) || !lies(b, 1, GREATEST_EDGE) || !lies(c, 1, GREATEST_EDGE)) {
            return NO_NUMBER;
        }
        long points = 0;
        for (int left = 0; left <= a; left++) {
            points += Whole.pointsBelow((long) a * c, (long) a * b, (long) left * b * c);
        }
        return points;
    }

    // ---- the matrix

    public int of(int what) throws NoSuchElementException {
        switch (what) {
            case 0:
                return matrix.a;
            case 1:
                return matrix.b;
            case 2:
                return matrix.c;
            case 3:
                return matrix.d;
            default:
                throw new NoSuchElementException("what is 0 to 3");
        }
    }

    public boolean set(int a, int b, int c, int d) {
        return matrix.become(a, b, c, d);
    }

    public boolean turn() {
        return matrix.multiply(0, -1, 1, 0);
    }

    public boolean shift(int n) {
        return matrix.multiply(1, n, 0, 1);
    }

    public boolean times(int a, int b, int c, int d) {
        return Matrix.isMatrix(a, b, c, d) && matrix.multiply(a, b, c, d);
    }

    public boolean invert() {
        return matrix.become(matrix.d, -matrix.b, -matrix.c, matrix.a);
    }

    public long phi(int what) {
        switch (what) {
            case 0:
                return matrix.companion();
            case 1:
                return matrix.companion() - 3L * Long.signum(matrix.c * matrix.trace());
            default:
                return NO_NUMBER;
        }
    }

    public int kind() {
        long size = Math.abs(matrix.trace());
        if (size < 2) {
            return 0;
        }
        return size == 2 ? 1 : 2;
    }

    public int order() {
        return matrix.fewestPowers();
    }

    public long word(int i) {
        return matrix.partOfWord(i);
    }

    // ---- rings

    public int same(int p, int q, int o) {
        if (!Classes.isRing(p, q) || !Classes.isRing(p, o)) {
            return NONE;
        }
        int first = Math.floorMod(q, p);
        int second = Math.floorMod(o, p);
        if (Classes.match(p, first, second)) {
            return 2;
        }
        return Classes.match(p, p - first, second) ? 1 : 0;
    }

    public int ring(int p, int q) {
        return Classes.isRing(p, q) ? Classes.leastOf(p, q) : NONE;
    }

    public int rings(int p, int i) {
        if (!lies(p, 2, GREATEST_RING)) {
            return NONE;
        }
        classes.gather(p);
        return classes.numberAt(i);
    }

    public int twins(int p, int i) {
        if (!lies(p, 2, GREATEST_RING)) {
            return NONE;
        }
        classes.gather(p);
        return classes.twinsAt(i);
    }

    // ---- texts

    public int feed(int a, int b, int c, int d, int e) {
        if (tapeLength + BYTES_FED > LONGEST_TAPE) {
            return NONE;
        }
        feedOne(a);
        feedOne(b);
        feedOne(c);
        feedOne(d);
        feedOne(e);
        return tapeLength;
    }

    private void feedOne(int number) {
        for (int bits = 24; bits >= 0; bits -= 8) {
            if (tapeLength >= 0 && tapeLength < tape.length) {
                tape[tapeLength] = (byte) (number >>> bits);
                tapeLength++;
            }
        }
    }

    public boolean end(int n) {
        if (!lies(n, 0, tapeLength)) {
            return false;
        }
        tapeLength = n;
        return true;
    }

    public int tell() {
        Fraction worked = reader.workOut(tapeLength);
        tapeLength = 0;
        int fault = reader.fault();
        if (fault == 0) {
            latest = worked;
            sumsTold++;
            sawSumsInLatest = reader.sawSums;
        }
        return fault;
    }

    public long told(boolean under) {
        return latest.part(under);
    }

    public int count(int what) {
        switch (what) {
            case 0:
                return tapeLength;
            case 1:
                return sumsTold;
            case 2:
                return sawSumsInLatest;
            default:
                return NONE;
        }
    }

    private static boolean lies(long number, long least, long greatest) {
        return number >= least && number <= greatest;
    }

    /** Functions of whole numbers. */
    private static final class Whole {
        private Whole() {
        }

        /** The greatest common divisor, 1 of 0 and 0, so that it can always divide. */
        static long divisor(long one, long other) {
            long greater = Math.abs(one);
            long less = Math.abs(other);
            for (int i = 0; i < EUCLID_STEPS && less != 0; i++) {
                long rest = greater % less;
                greater = less;
                less = rest;
            }
            return Math.max(greater, 1);
        }

        /** What number must be multiplied by to be 1 more than a number of times modulus. */
        static long inverse(long number, long modulus) {
            if (modulus < 1) {
                return 0;
            }
            long greater = modulus;
            long less = Math.floorMod(number, modulus);
            long before = 0;
            long factor = 1;
            for (int i = 0; i < EUCLID_STEPS && less != 0; i++) {
                long fits = greater / less;
                long rest = greater - fits * less;
                long next = before - fits * factor;
                greater = less;
                less = rest;
                before = factor;
                factor = next;
            }
            return Math.floorMod(before, modulus);
        }

        /**
         * 12 k s(h, k), always whole, for k 1 to 10^9.
         *
         * With h by k in least terms and a1 .. an its CHAIN, 12 s is a1 - a2 + a3 .. and
         * (h and, of an odd n, plus, else minus, the last but one lower number of the
         * chain's fractions) by k, less 3 of an odd n. So all stays within a long.
         */
        static long twelfths(long h, long k) {
            if (k < 1) {
                return 0;
            }
            long first = Math.floorMod(h, k);
            long upper = first;
            long lower = k;
            long sign = 1;
            long links = 0;
            long before = 0;
            long last = 1;
            for (int i = 0; i < EUCLID_STEPS && upper != 0; i++) {
                long link = lower / upper;
                long rest = lower % upper;
                links += sign * link;
                sign = -sign;
                long next = link * last + before;
                before = last;
                last = next;
                lower = upper;
                upper = rest;
            }
            // lower is now the common divisor and last is k divided by it.
            long three = sign < 0 ? 3 : 0;
            return first + lower * (last * (links - three) - sign * before);
        }

        /** The sum of (slope i + start) by parts, downwards, over i from 0 to many - 1. */
        static long floorSum(long slope, long start, long parts, long many) {
            long total = 0;
            long a = slope;
            long b = start;
            long m = parts;
            long n = many;
            for (int i = 0; i < EUCLID_STEPS && m > 0; i++) {
                total += n * (n - 1) / 2 * Math.floorDiv(a, m) + n * Math.floorDiv(b, m);
                long rest = Math.floorMod(a, m);
                long top = rest * n + Math.floorMod(b, m);
                if (top < m) {
                    break;
                }
                // What is left is counted along the other axis: there a and m change places.
                n = top / m;
                b = top % m;
                a = m;
                m = rest;
            }
            return total;
        }

        /** How many whole x, y of 0 or more have a x + b y no more than c. */
        static long pointsBelow(long a, long b, long c) {
            if (a < 1 || b < 1 || c < 0) {
                return 0;
            }
            long columns = c / a + 1;
            return columns + floorSum(a, c % a, b, columns);
        }

        /** How many unlike numbers the first ones of row are; it sorts them. */
        static int unlike(long[] row, int length) {
            if (length < 1 || length > row.length) {
                return 0;
            }
            for (int gap = length / 2; gap > 0; gap /= 2) {
                for (int i = gap; i < length; i++) {
                    sink(row, i, gap);
                }
            }
            int found = 1;
            for (int i = 1; i < length; i++) {
                if (row[i] != row[i - 1]) {
                    found++;
                }
            }
            return found;
        }

        private static void sink(long[] row, int from, int gap) {
            if (gap < 1 || from < 0 || from >= row.length) {
                return;
            }
            long number = row[from];
            int at = from;
            for (; at >= gap && row[at - gap] > number; at -= gap) {
                row[at] = row[at - gap];
            }
            row[at] = number;
        }
    }

    /** A fraction in least terms, its lower number above 0. */
    private static final class Fraction {
        private final long upper;
        private final long lower;

        /** Under is 1 or more. */
        Fraction(long over, long under) {
            long divisor = Whole.divisor(over, under);
            upper = over / divisor;
            lower = under / divisor;
        }

        /** s(h, k), k being 1 to 10^9. */
        static Fraction ofSawSum(long h, long k) {
            return new Fraction(Whole.twelfths(h, k), 12 * k);
        }

        long part(boolean under) {
            return under ? lower : upper;
        }

        boolean isWithin(long bound) {
            return Math.abs(upper) <= bound && lower <= bound;
        }

        /** SAW of it: in least terms it is whole only if the lower number is 1. */
        Fraction sawOf() {
            if (lower <= 1) {
                return new Fraction(0, 1);
            }
            return new Fraction(2 * Math.floorMod(upper, lower) - lower, 2 * lower);
        }

        Fraction opposite() {
            return new Fraction(-upper, lower);
        }

        Fraction plus(Fraction other) {
            return new Fraction(upper * other.lower + other.upper * lower, lower * other.lower);
        }

        Fraction product(Fraction other) {
            return new Fraction(upper * other.upper, lower * other.lower);
        }
    }

    /** The MATRIX. */
    private static final class Matrix {
        private int a;
        private int b;
        private int c;
        private int d;

        Matrix() {
            a = 1;
            b = 0;
            c = 0;
            d = 1;
        }

        static boolean isMatrix(long a, long b, long c, long d) {
            // The bounds come first: within them the products fit a long.
            return lies(a, -GREATEST, GREATEST) && lies(b, -GREATEST, GREATEST)
                && lies(c, -GREATEST, GREATEST) && lies(d, -GREATEST, GREATEST)
                && a * d - b * c == 1;
        }

        boolean become(long newA, long newB, long newC, long newD) {
            if (!isMatrix(newA, newB, newC, newD)) {
                return false;
            }
            a = (int) newA;
            b = (int) newB;
            c = (int) newC;
            d = (int) newD;
            return true;
        }

        /** It times e f above g h, of which each is an int, so that the sums fit a long. */
        boolean multiply(long e, long f, long g, long h) {
            return become(a * e + b * g, a * f + b * h, c * e + d * g, c * f + d * h);
        }

        long trace() {
            return (long) a + d;
        }

        /** PHI. */
        long companion() {
            if (c == 0) {
                // d is 1 or -1, so that dividing by it is multiplying.
                return (long) b * d;
            }
            long size = Math.abs((long) c);
            long whole = (trace() - Whole.twelfths(d, size)) / size;
            return c < 0 ? -whole : whole;
        }

        /** A MATRIX that is not 1 or -1 comes back to 1 only if its trace is -1, 0 or 1. */
        int fewestPowers() {
            if (b == 0 && c == 0) {
                return a == 1 ? 1 : 2;
            }
            long trace = trace();
            if (trace == 0) {
                return 4;
            }
            if (trace == 1) {
                return 6;
            }
            return trace == -1 ? 3 : NONE;
        }

        /** The i-th of the WORD, how many if i is NONE. */
        long partOfWord(int i) {
            long over = a;
            long overBeside = b;
            long under = c;
            long underBeside = d;
            int length = 0;
            for (; length < EUCLID_STEPS && under != 0; length++) {
                long n = Math.floorDiv(2 * over + under, 2 * under);
                if (length == i) {
                    return n;
                }
                long rest = n * under - over;
                long restBeside = n * underBeside - overBeside;
                over = under;
                overBeside = underBeside;
                under = rest;
                underBeside = restBeside;
            }
            if (length == i) {
                return overBeside * underBeside;
            }
            return i == NONE ? length + 1 : NO_NUMBER;
        }
    }

    /** The CLASSES of one p, gathered anew by each call that asks for them. */
    private static final class Classes {
        private final int[] numbers;
        private final long[] sizes;
        private int many;

        Classes() {
            // A CLASS has p less q with q, so its number is at most half of p.
            numbers = new int[GREATEST_RING / 2];
            sizes = new long[GREATEST_RING / 2];
            many = 0;
        }

        static boolean isRing(int p, int q) {
            return lies(p, 2, GREATEST_RING) && Whole.divisor(q, p) == 1;
        }

        /** Whether q is o, or the two multiplied are 1 more than a number of times p. */
        static boolean match(int p, int q, int o) {
            return q == o || (p > 0 && q * o % p == 1);
        }

        static int leastOf(int p, int q) {
            if (p < 1) {
                return NONE;
            }
            int here = Math.floorMod(q, p);
            int back = (int) Whole.inverse(q, p);
            return Math.min(Math.min(here, p - here), Math.min(back, p - back));
        }

        void gather(int p) {
            many = 0;
            for (int q = 1; q <= p / 2; q++) {
                if (many < numbers.length && many < sizes.length && isRing(p, q) && leastOf(p, q) == q) {
                    numbers[many] = q;
                    sizes[many] = Math.abs(Whole.twelfths(q, p));
                    many++;
                }
            }
        }

        int numberAt(int i) {
            if (i == NONE) {
                return many;
            }
            return i >= 0 && i < many && i < numbers.length ? numbers[i] : NONE;
        }

        int twinsAt(int i) {
            int found = 0;
            int bound = Math.min(many, Math.min(numbers.length, sizes.length));
            for (int lesser = 0; lesser < bound; lesser++) {
                for (int greater = lesser + 1; greater < bound; greater++) {
                    if (sizes[lesser] == sizes[greater]) {
                        if (found == i) {
                            return 1000 * numbers[lesser] + numbers[greater];
                        }
                        found++;
                    }
                }
            }
            return i == NONE ? found : NONE;
        }
    }

    /** The TOKENS of a TEXT, cut ahead of the reading, each with the place of its first byte. */
    private static final class Tokens {
        // A TOKEN that is a single byte is told by the byte's number, the others by these.
        private static final int END = -1;
        private static final int NUMBER = -2;
        private static final int WORD_SAW = -3;
        private static final int WORD_S = -4;
        private static final int WORD_PHI = -5;
        private static final int STRANGE = -6;
        private static final int MOST_DIGITS = 9;

        private static final int SINGLE = 0;
        private static final int BLANK = 1;
        private static final int LETTER = 2;
        private static final int DIGIT = 3;

        private final byte[] bytes;
        private final int[] kinds;
        private final int[] places;
        private final int[] numbers;
        private int length;
        private int many;

        Tokens(byte[] tapeBytes) {
            bytes = tapeBytes;
            // The end counts as a TOKEN, too.
            kinds = new int[LONGEST_TAPE + 1];
            places = new int[LONGEST_TAPE + 1];
            numbers = new int[LONGEST_TAPE + 1];
            length = 0;
            many = 0;
        }

        /** Cuts the first bytes of the TAPE. */
        void cut(int bytesUsed) {
            length = Math.min(bytesUsed, bytes.length);
            many = 0;
            int place = pastRun(0, BLANK);
            for (int i = 0; i < LONGEST_TAPE && place < length; i++) {
                int sort = sortAt(place);
                int past = sort == SINGLE ? place + 1 : pastRun(place, sort);
                put(kindOf(sort, place, past), place);
                place = pastRun(past, BLANK);
            }
            put(END, length);
        }

        int kindAt(int i) {
            return i >= 0 && i < many && i < kinds.length ? kinds[i] : END;
        }

        int placeAt(int i) {
            return i >= 0 && i < many && i < places.length ? places[i] : length;
        }

        /** What the NUMBER at i is; 0 if there is none. */
        int numberAt(int i) {
            return i >= 0 && i < many && i < numbers.length ? numbers[i] : 0;
        }

        private void put(int kind, int place) {
            if (many >= 0 && many < kinds.length && many < places.length && many < numbers.length) {
                kinds[many] = kind;
                places[many] = place;
                numbers[many] = kind == NUMBER ? readDigits(place) : 0;
                many++;
            }
        }

        private int kindOf(int sort, int place, int past) {
            switch (sort) {
                case LETTER:
                    return wordOf(place, past);
                case DIGIT:
                    return past - place > MOST_DIGITS ? STRANGE : NUMBER;
                default:
                    return byteAt(place);
            }
        }

        private int wordOf(int place, int past) {
            if (isWord("s", place, past)) {
                return WORD_S;
            }
            if (isWord("saw", place, past)) {
                return WORD_SAW;
            }
            return isWord("phi", place, past) ? WORD_PHI : STRANGE;
        }

        private boolean isWord(String word, int place, int past) {
            boolean same = past - place == word.length();
            for (int i = 0; same && i < word.length(); i++) {
                same = byteAt(place + i) == word.charAt(i);
            }
            return same;
        }

        private int readDigits(int place) {
            int number = 0;
            for (int i = 0; i < MOST_DIGITS && sortAt(place + i) == DIGIT; i++) {
                number = 10 * number + byteAt(place + i) - '0';
            }
            return number;
        }

        private int pastRun(int from, int sort) {
            int place = from;
            for (int i = 0; i < LONGEST_TAPE && sortAt(place) == sort; i++) {
                place++;
            }
            return place;
        }

        private int sortAt(int place) {
            int sign = byteAt(place);
            if (sign == ' ' || sign == '\n') {
                return BLANK;
            }
            if (sign >= 'a' && sign <= 'z') {
                return LETTER;
            }
            return sign >= '0' && sign <= '9' ? DIGIT : SINGLE;
        }

        private int byteAt(int place) {
            return place >= 0 && place < length && place < bytes.length ? bytes[place] & 255 : END;
        }
    }

    /** Reads a TEXT and works it out as it goes. */
    private static final class Reader {
        private static final int CANNOT_STAND = 1;
        private static final int CANNOT_BE = 2;
        private static final int TOO_GREAT = 3;
        private static final int MOST_OPEN = 9;

        private final Tokens tokens;
        private final Matrix matrix;
        private final Fraction zero;
        private int at;
        private int token;
        private int refused;
        private int exceeded;
        private int sawSums;

        Reader(byte[] tapeBytes, Matrix ofPhi) {
            tokens = new Tokens(tapeBytes);
            matrix = ofPhi;
            zero = new Fraction(0, 1);
            at = 0;
            token = Tokens.END;
            refused = 0;
            exceeded = 0;
            sawSums = 0;
        }

        /** The SUM on the first bytes of the TAPE; it is worth nothing if there is a fault. */
        Fraction workOut(int bytesUsed) {
            tokens.cut(bytesUsed);
            at = 0;
            token = tokens.kindAt(0);
            refused = 0;
            exceeded = 0;
            sawSums = 0;
            Fraction worked = readSum(0);
            if (token != Tokens.END) {
                refuse(CANNOT_STAND);
            }
            return worked;
        }

        /** 0, or the FAULT of the TEXT worked out last. */
        int fault() {
            return refused != 0 ? refused : exceeded;
        }

        /** Open is in each of these how many ( are open. */
        private Fraction readSum(int open) {
            Fraction total = readTerm(open);
            for (int i = 0; i < LONGEST_TAPE && (token == '+' || token == '-'); i++) {
                boolean less = token == '-';
                int sign = at;
                advance();
                Fraction term = readTerm(open);
                total = bounded(total.plus(less ? term.opposite() : term), sign);
            }
            return total;
        }

        private Fraction readTerm(int open) {
            Fraction total = readFactor(open);
            for (int i = 0; i < LONGEST_TAPE && token == '*'; i++) {
                int sign = at;
                advance();
                total = bounded(total.product(readFactor(open)), sign);
            }
            return total;
        }

        private Fraction readFactor(int open) {
            if (token != '-') {
                return readUnit(open);
            }
            advance();
            return readUnit(open).opposite();
        }

        private Fraction readUnit(int open) {
            int first = at;
            switch (token) {
                case Tokens.NUMBER:
                    return readNumbers();
                case Tokens.WORD_SAW:
                    advance();
                    return bounded(readBrackets(open).sawOf(), first);
                case Tokens.WORD_S:
                    advance();
                    return bounded(readSawSum(open), first);
                case Tokens.WORD_PHI:
                    advance();
                    return bounded(new Fraction(matrix.companion(), 1), first);
                case '(':
                    return readBrackets(open);
                default:
                    refuse(CANNOT_STAND);
                    return zero;
            }
        }

        private Fraction readBrackets(int open) {
            if (!goesIn(open)) {
                return zero;
            }
            Fraction worked = readSum(open + 1);
            pass(')');
            return worked;
        }

        private Fraction readSawSum(int open) {
            sawSums++;
            if (!goesIn(open)) {
                return zero;
            }
            long h = readWhole(false);
            pass(',');
            long k = readWhole(true);
            pass(')');
            return Fraction.ofSawSum(h, k);
        }

        private Fraction readNumbers() {
            long upper = readNumber(false, false);
            if (token != '/') {
                return new Fraction(upper, 1);
            }
            int sign = at;
            advance();
            return bounded(new Fraction(upper, readNumber(false, true)), sign);
        }

        private long readWhole(boolean aboveZero) {
            boolean negative = token == '-';
            if (negative) {
                advance();
            }
            return readNumber(negative, aboveZero);
        }

        /** 1 where the NUMBER has a fault, so that what is read above zero can always divide. */
        private long readNumber(boolean negative, boolean aboveZero) {
            if (token != Tokens.NUMBER) {
                refuse(CANNOT_STAND);
                return 1;
            }
            long number = tokens.numberAt(at);
            if (aboveZero && (negative || number < 1)) {
                refuse(CANNOT_BE);
                return 1;
            }
            advance();
            return negative ? -number : number;
        }

        private boolean goesIn(int open) {
            if (token == '(' && open >= MOST_OPEN) {
                refuse(CANNOT_BE);
            } else {
                pass('(');
            }
            return refused == 0;
        }

        private void pass(int due) {
            if (token == due) {
                advance();
            } else {
                refuse(CANNOT_STAND);
            }
        }

        private void advance() {
            if (refused == 0) {
                at++;
                token = tokens.kindAt(at);
            }
        }

        /** Behind the first fault no TOKEN fits any more, so that all reading comes to its end. */
        private void refuse(int fault) {
            if (refused == 0) {
                refused = fault + 8 * tokens.placeAt(at);
                token = Tokens.STRANGE;
            }
        }

        /** What is worked out at a TOKEN, or 0 if that is too great: other faults may still come. */
        private Fraction bounded(Fraction worked, int atToken) {
            if (worked.isWithin(GREATEST)) {
                return worked;
            }
            if (exceeded == 0) {
                exceeded = TOO_GREAT + 8 * tokens.placeAt(atToken);
            }
            return zero;
        }
    }
}
