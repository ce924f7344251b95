import java.math.BigInteger;

/** A fraction of any size, and the document's terms told as plainly as it tells them. */
final class Exact implements Comparable<Exact> {
    static final Exact ZERO = new Exact(BigInteger.ZERO, BigInteger.ONE);
    final BigInteger upper;
    final BigInteger lower;

    Exact(BigInteger over, BigInteger under) {
        BigInteger divisor = over.gcd(under);
        if (under.signum() < 0) {
            divisor = divisor.negate();
        }
        upper = over.divide(divisor);
        lower = under.divide(divisor);
    }

    static Exact of(long over, long under) {
        return new Exact(BigInteger.valueOf(over), BigInteger.valueOf(under));
    }

    Exact plus(Exact o) {
        return new Exact(upper.multiply(o.lower).add(o.upper.multiply(lower)), lower.multiply(o.lower));
    }

    Exact negate() {
        return new Exact(upper.negate(), lower);
    }

    Exact minus(Exact o) {
        return plus(o.negate());
    }

    Exact times(Exact o) {
        return new Exact(upper.multiply(o.upper), lower.multiply(o.lower));
    }

    boolean isWhole() {
        return lower.equals(BigInteger.ONE);
    }

    Exact floor() {
        BigInteger[] parts = upper.divideAndRemainder(lower);
        return new Exact(parts[1].signum() < 0 ? parts[0].subtract(BigInteger.ONE) : parts[0], BigInteger.ONE);
    }

    Exact saw() {
        return isWhole() ? ZERO : minus(floor()).minus(of(1, 2));
    }

    /** s(h, k) by its definition: for small k. */
    static Exact slowSum(long h, long k) {
        // SAW of n by k is (2 n - k) by 2 k, n brought to 1 to k - 1: the common lower number is 4 k k.
        BigInteger total = BigInteger.ZERO;
        for (long r = 1; r < k; r++) {
            long n = Math.floorMod(BigInteger.valueOf(h).multiply(BigInteger.valueOf(r))
                .mod(BigInteger.valueOf(k)).longValueExact(), k);
            long left = 2 * r - k;
            long right = n == 0 ? 0 : 2 * n - k;
            total = total.add(BigInteger.valueOf(left * right));
        }
        return new Exact(total, BigInteger.valueOf(4).multiply(BigInteger.valueOf(k)).multiply(BigInteger.valueOf(k)));
    }

    /** s(h, k) by the law of exchange: for great k. */
    static Exact sum(long h, long k) {
        long divisor = BigInteger.valueOf(h).gcd(BigInteger.valueOf(k)).longValueExact();
        long under = k / divisor;
        long over = Math.floorMod(h / divisor, under);
        Exact total = ZERO;
        boolean plus = true;
        while (over != 0) {
            // s(over, under) = law - s(under, over).
            Exact law = of(over, under).plus(of(under, over))
                .plus(Exact.of(1, over).times(Exact.of(1, under))).times(of(1, 12)).minus(of(1, 4));
            total = plus ? total.plus(law) : total.minus(law);
            plus = !plus;
            long rest = under % over;
            under = over;
            over = rest;
        }
        return total;
    }

    long part(boolean under) {
        return (under ? lower : upper).longValueExact();
    }

    boolean isAbove(long bound) {
        BigInteger most = BigInteger.valueOf(bound);
        return upper.abs().compareTo(most) > 0 || lower.compareTo(most) > 0;
    }

    @Override
    public int compareTo(Exact o) {
        return upper.multiply(o.lower).compareTo(o.upper.multiply(lower));
    }

    boolean is(Exact o) {
        return compareTo(o) == 0;
    }

    static long divisor(long a, long b) {
        return BigInteger.valueOf(a).gcd(BigInteger.valueOf(b)).longValueExact();
    }
}
