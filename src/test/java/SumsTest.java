import java.util.ArrayList;
import java.util.List;
import java.util.Random;
import java.util.TreeSet;

/** Promises 2 to 10. */
public final class SumsTest {
    private static final long NO = SawSums.NO_NUMBER;
    private static final int NONE = SawSums.NONE;
    private static final int BILLION = 1000000000;
    private static final int[] HS = {0, 1, 2, 3, 5, 7, 12, 100, 499, 500, 501, 997, -1, -2, -3, -7, -500,
        BILLION, -BILLION, Integer.MAX_VALUE, Integer.MIN_VALUE};
    private static final int[] WRONG = {0, -1, Integer.MIN_VALUE, Integer.MAX_VALUE};
    private static final Check CHECK = new Check("sums");
    private static final Fresh X = new Fresh();

    private SumsTest() {
    }

    public static void main(String[] args) {
        saw();
        sum();
        both();
        three();
        above();
        chain();
        minus();
        alike();
        sorts();
        CHECK.finish();
    }

    private static void fraction(String what, Exact want, long upper, long lower) {
        CHECK.due(what + " upper", want.part(false), upper);
        CHECK.due(what + " lower", want.part(true), lower);
    }

    private static void none(String what, long upper, long lower) {
        CHECK.due(what + " upper", NO, upper);
        CHECK.due(what + " lower", NO, lower);
    }

    private static void saw(int a, int b) {
        fraction("saw " + a + " " + b, Exact.of(a, b).saw(), X.one().saw(a, b, false), X.one().saw(a, b, true));
    }

    private static void saw() {
        for (int a = -40; a <= 40; a++) {
            for (int b = -20; b <= 20; b++) {
                if (b != 0) {
                    saw(a, b);
                }
            }
        }
        int[] great = {BILLION, -BILLION, BILLION - 1, 1 - BILLION, 999999937, -999999937, 1, -1, 2, 0};
        for (int a : great) {
            for (int b : great) {
                if (b != 0) {
                    saw(a, b);
                }
            }
        }
        CHECK.due("lower number of 1 by 999999999", 1999999998L, X.one().saw(1, 999999999, true));
        for (int good : new int[] {1, -5, BILLION}) {
            for (int bad : new int[] {BILLION + 1, -BILLION - 1, Integer.MIN_VALUE, Integer.MAX_VALUE}) {
                none("saw " + bad + " " + good, X.one().saw(bad, good, false), X.one().saw(bad, good, true));
                none("saw " + good + " " + bad, X.one().saw(good, bad, false), X.one().saw(good, bad, true));
            }
            none("saw " + good + " 0", X.one().saw(good, 0, false), X.one().saw(good, 0, true));
        }
    }

    private static void sum() {
        for (int k = 1; k <= 60; k++) {
            for (int h = -70; h <= 70; h++) {
                Exact want = Exact.slowSum(h, k);
                CHECK.yes("oracles alike at " + h + " " + k, want.is(Exact.sum(h, k)));
                fraction("sum " + h + " " + k, want, X.one().sum(h, k, false), X.one().sum(h, k, true));
            }
        }
        Random random = new Random(3);
        int[] ks = {1, 2, 3, BILLION, BILLION - 1, BILLION - 2, 999999937, 1 << 29, 701408733, 433494437, 387420489};
        for (int k : ks) {
            for (int h : HS) {
                great(h, k);
            }
            great(k - 1, k);
            great(k / 2, k);
            great(433494437, k);
            great(701408733, k);
        }
        for (int i = 0; i < 3000; i++) {
            great(random.nextInt(), 1 + random.nextInt(BILLION));
        }
        CHECK.due("sum(1, 10^9)", 166666666166666667L, X.one().sum(1, BILLION, false));
        CHECK.due("sum(1, 10^9) below", 2000000000L, X.one().sum(1, BILLION, true));
        CHECK.due("sum(-1, 10^9)", -166666666166666667L, X.one().sum(-1, BILLION, false));
        for (int k : new int[] {0, -1, BILLION + 1, Integer.MIN_VALUE, Integer.MAX_VALUE}) {
            none("sum 1 " + k, X.one().sum(1, k, false), X.one().sum(1, k, true));
        }
    }

    private static void great(int h, int k) {
        fraction("sum " + h + " " + k, Exact.sum(h, k), X.one().sum(h, k, false), X.one().sum(h, k, true));
    }

    private static void both(int h, int k) {
        Exact want = Exact.sum(h, k).plus(Exact.sum(k, h));
        fraction("both " + h + " " + k, want, X.one().both(h, k, false), X.one().both(h, k, true));
    }

    private static void both() {
        for (int h = 1; h <= 40; h++) {
            for (int k = 1; k <= 40; k++) {
                both(h, k);
            }
        }
        int[] great = {1, 2, 29999, 30000, 15000, 28657, 17711};
        for (int h : great) {
            for (int k : great) {
                both(h, k);
            }
        }
        for (int bad : new int[] {0, -1, 30001, Integer.MIN_VALUE, Integer.MAX_VALUE}) {
            none("both " + bad, X.one().both(bad, 7, false), X.one().both(bad, 7, true));
            none("both 7 " + bad, X.one().both(7, bad, false), X.one().both(7, bad, true));
        }
    }

    private static long inverse(long a, long m) {
        for (long i = 0; i < m; i++) {
            if (a * i % m == 1 % m) {
                return i;
            }
        }
        throw new IllegalStateException();
    }

    private static void three(int a, int b, int c) {
        String what = "three " + a + " " + b + " " + c;
        boolean apart = Exact.divisor(a, b) == 1 && Exact.divisor(b, c) == 1 && Exact.divisor(a, c) == 1;
        if (!apart) {
            none(what, X.one().three(a, b, c, false), X.one().three(a, b, c, true));
            return;
        }
        Exact want = Exact.sum(a * inverse(b, c), c).plus(Exact.sum(b * inverse(c, a), a))
            .plus(Exact.sum(c * inverse(a, b), b));
        fraction(what, want, X.one().three(a, b, c, false), X.one().three(a, b, c, true));
    }

    private static void three() {
        for (int a = 1; a <= 12; a++) {
            for (int b = 1; b <= 12; b++) {
                for (int c = 1; c <= 12; c++) {
                    three(a, b, c);
                }
            }
        }
        int[] great = {1, 997, 999, 1000, 991, 500, 610, 987};
        for (int a : great) {
            for (int b : great) {
                for (int c : great) {
                    three(a, b, c);
                }
            }
        }
        for (int bad : new int[] {0, -1, 1001, Integer.MIN_VALUE, Integer.MAX_VALUE}) {
            none("three " + bad, X.one().three(bad, 2, 3, false), X.one().three(bad, 2, 3, true));
            none("three 2 " + bad, X.one().three(2, bad, 3, false), X.one().three(2, bad, 3, true));
            none("three 2 3 " + bad, X.one().three(2, 3, bad, false), X.one().three(2, 3, bad, true));
        }
    }

    private static void above(int h, int k, int n) {
        Exact bar = Exact.sum(h, k);
        int want = 0;
        for (int other = 1; other <= n; other++) {
            if (Exact.sum(h, other).compareTo(bar) > 0) {
                want++;
            }
        }
        CHECK.due("above " + h + " " + k + " " + n, want, X.one().above(h, k, n));
    }

    private static void above() {
        for (int h : HS) {
            for (int k : new int[] {1, 2, 5, 12, 30, 1000}) {
                above(h, k, 1);
                above(h, k, 40);
            }
        }
        above(1, 999, 1000);
        above(3, 1000, 1000);
        above(-1, 1000, 1000);
        for (int bad : new int[] {0, -1, 1001, Integer.MIN_VALUE, Integer.MAX_VALUE}) {
            CHECK.due("above k " + bad, NO, X.one().above(1, bad, 5));
            CHECK.due("above n " + bad, NO, X.one().above(1, 5, bad));
        }
    }

    private static List<Integer> linksOf(int h, int k, boolean plus) {
        List<Integer> links = new ArrayList<>();
        int upper = Math.floorMod(h, k);
        int lower = k;
        while (upper != 0) {
            int link = lower / upper;
            int rest = lower % upper;
            if (!plus && rest != 0) {
                link++;
                rest = upper - rest;
            }
            links.add(link);
            lower = upper;
            upper = rest;
        }
        return links;
    }

    private static void links(int h, int k, boolean plus) {
        boolean apart = Exact.divisor(h, k) == 1;
        List<Integer> want = linksOf(h, k, plus);
        String what = (plus ? "chain " : "minus ") + h + " " + k + " ";
        int[] is = {NONE, -2, 0, 1, 2, 3, want.size() - 2, want.size() - 1, want.size(), want.size() + 1,
            Integer.MIN_VALUE, Integer.MAX_VALUE};
        for (int i : is) {
            int due = i >= 0 && i < want.size() ? want.get(i) : NONE;
            if (i == NONE) {
                due = want.size();
            }
            CHECK.due(what + i, apart ? due : NONE, plus ? X.one().chain(h, k, i) : X.one().minus(h, k, i));
        }
    }

    private static void chain() {
        for (int k = 1; k <= 30; k++) {
            for (int h = -35; h <= 35; h++) {
                links(h, k, true);
            }
        }
        for (int k : new int[] {1, BILLION, BILLION - 1, 701408733, 999999937}) {
            for (int h : HS) {
                links(h, k, true);
            }
            links(433494437, k, true);
        }
        CHECK.due("chain of golden numbers", 42, X.one().chain(433494437, 701408733, NONE));
        for (int k : new int[] {0, -1, BILLION + 1, Integer.MIN_VALUE, Integer.MAX_VALUE}) {
            CHECK.due("chain k " + k, NONE, X.one().chain(1, k, NONE));
            CHECK.due("chain k " + k, NONE, X.one().chain(1, k, 0));
        }
    }

    private static void minus() {
        for (int k = 1; k <= 30; k++) {
            for (int h = -35; h <= 35; h++) {
                links(h, k, false);
            }
        }
        for (int k : new int[] {1, 10000, 9999, 6765, 9973}) {
            for (int h : HS) {
                links(h, k, false);
            }
            links(k - 1, k, false);
            links(4181, k, false);
        }
        CHECK.due("longest minus chain", 9999, X.one().minus(9999, 10000, NONE));
        CHECK.due("its last", 2, X.one().minus(9999, 10000, 9998));
        for (int k : new int[] {0, -1, 10001, Integer.MIN_VALUE, Integer.MAX_VALUE}) {
            CHECK.due("minus k " + k, NONE, X.one().minus(1, k, NONE));
            CHECK.due("minus k " + k, NONE, X.one().minus(1, k, 0));
        }
    }

    private static void alike(int h, int k) {
        Exact wanted = Exact.sum(h, k);
        List<Integer> want = new ArrayList<>();
        for (int other = 0; other < k; other++) {
            if (Exact.divisor(other, k) == 1 && Exact.sum(other, k).is(wanted)) {
                want.add(other);
            }
        }
        String what = "alike " + h + " " + k + " ";
        CHECK.due(what + "NONE", want.size(), X.one().alike(h, k, NONE));
        for (int i = 0; i < want.size(); i++) {
            CHECK.due(what + i, want.get(i), X.one().alike(h, k, i));
        }
        for (int i : new int[] {want.size(), want.size() + 1, -2, Integer.MIN_VALUE, Integer.MAX_VALUE}) {
            CHECK.due(what + i, NONE, X.one().alike(h, k, i));
        }
    }

    private static void alike() {
        for (int k = 1; k <= 26; k++) {
            for (int h = -5; h <= 30; h++) {
                alike(h, k);
            }
        }
        for (int k : new int[] {65, 145, 499, 500, 480}) {
            for (int h : HS) {
                alike(h, k);
            }
        }
        CHECK.due("none alike", 0, X.one().alike(2, 4, NONE));
        CHECK.due("none alike, the first", NONE, X.one().alike(2, 4, 0));
        for (int k : WRONG) {
            CHECK.due("alike k " + k, NONE, X.one().alike(1, k, NONE));
            CHECK.due("alike k " + k, NONE, X.one().alike(1, k, 0));
        }
        CHECK.due("alike k 501", NONE, X.one().alike(1, 501, NONE));
    }

    private static void sorts() {
        for (int k = 1; k <= 500; k += k < 100 ? 1 : 37) {
            sorts(k);
        }
        sorts(499);
        // Falling, so that a row used before holds more than the next one needs.
        for (int k = 500; k > 0; k -= 23) {
            sorts(k);
        }
        for (int k : WRONG) {
            CHECK.due("sorts k " + k, NONE, X.one().sorts(k, 0));
            CHECK.due("sorts k " + k, NONE, X.one().sorts(k, 1));
        }
        CHECK.due("sorts k 501", NONE, X.one().sorts(501, 0));
        for (int what : new int[] {-1, 2, 3, Integer.MIN_VALUE, Integer.MAX_VALUE}) {
            CHECK.due("sorts what " + what, NONE, X.one().sorts(7, what));
        }
    }

    private static void sorts(int k) {
        TreeSet<Exact> unlike = new TreeSet<>();
        int best = NONE;
        for (int h = 0; h < k; h++) {
            if (Exact.divisor(h, k) == 1) {
                Exact value = Exact.sum(h, k);
                if (unlike.isEmpty() || value.compareTo(unlike.last()) > 0) {
                    best = h;
                }
                unlike.add(value);
            }
        }
        CHECK.due("sorts " + k + " 0", unlike.size(), X.one().sorts(k, 0));
        CHECK.due("sorts " + k + " 1", best, X.one().sorts(k, 1));
    }
}
