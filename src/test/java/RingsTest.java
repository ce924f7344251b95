import java.util.ArrayList;
import java.util.Collections;
import java.util.List;
import java.util.TreeMap;

/** Promises 25 to 28. */
public final class RingsTest {
    private static final int NONE = SawSums.NONE;
    private static final int[] FAR = {-2, Integer.MIN_VALUE, Integer.MAX_VALUE};
    private static final Check CHECK = new Check("rings");
    private static final Fresh X = new Fresh();

    private RingsTest() {
    }

    public static void main(String[] args) {
        for (int p = 2; p <= 60; p++) {
            couples(p);
        }
        for (int p : new int[] {65, 97, 120, 145}) {
            couples(p);
        }
        edgesOfQ();
        for (int p = 2; p <= 1000; p += p < 150 ? 1 : 31) {
            classes(p);
        }
        for (int p : new int[] {325, 840, 997, 998, 999, 1000}) {
            classes(p);
        }
        wrong();
        CHECK.finish();
    }

    private static boolean ring(int p, int q) {
        return Exact.divisor(q, p) == 1;
    }

    private static int sameness(int p, int q, int o) {
        int one = Math.floorMod(q, p);
        int other = Math.floorMod(o, p);
        if (one == other || one * other % p == 1) {
            return 2;
        }
        int mirror = p - one;
        return mirror == other || mirror * other % p == 1 ? 1 : 0;
    }

    private static int classOf(int p, int q) {
        for (int o = 1; o < p; o++) {
            if (ring(p, o) && sameness(p, q, o) > 0) {
                return o;
            }
        }
        throw new IllegalStateException();
    }

    private static void couples(int p) {
        for (int q = -p - 2; q <= 2 * p; q++) {
            CHECK.due("ring " + p + " " + q, ring(p, q) ? classOf(p, q) : NONE, X.one().ring(p, q));
            for (int o = 0; o <= p + 1; o++) {
                int want = ring(p, q) && ring(p, o) ? sameness(p, q, o) : NONE;
                CHECK.due("same " + p + " " + q + " " + o, want, X.one().same(p, q, o));
            }
        }
    }

    private static void edgesOfQ() {
        int[] great = {Integer.MIN_VALUE, Integer.MAX_VALUE, Integer.MIN_VALUE + 1, 1000000000, -1000000000};
        for (int p : new int[] {2, 3, 999, 1000, 997}) {
            for (int q : great) {
                CHECK.due("ring " + p + " " + q, ring(p, q) ? classOf(p, q) : NONE, X.one().ring(p, q));
                for (int o : great) {
                    int want = ring(p, q) && ring(p, o) ? sameness(p, q, o) : NONE;
                    CHECK.due("same " + p + " " + q + " " + o, want, X.one().same(p, q, o));
                }
            }
        }
    }

    private static void rows(String what, List<Integer> want, boolean twins, int p) {
        CHECK.due(what + p, want.size(), twins ? X.one().twins(p, NONE) : X.one().rings(p, NONE));
        for (int i = 0; i < want.size(); i++) {
            CHECK.due(what + p + " " + i, want.get(i), twins ? X.one().twins(p, i) : X.one().rings(p, i));
        }
        for (int i : new int[] {want.size(), want.size() + 1, FAR[0], FAR[1], FAR[2]}) {
            CHECK.due(what + p + " " + i, NONE, twins ? X.one().twins(p, i) : X.one().rings(p, i));
        }
    }

    private static void classes(int p) {
        List<Integer> numbers = new ArrayList<>();
        TreeMap<Exact, List<Integer>> bySize = new TreeMap<>();
        for (int q = 1; q < p; q++) {
            if (ring(p, q) && classOf(p, q) == q) {
                numbers.add(q);
                Exact value = Exact.sum(q, p);
                Exact size = value.upper.signum() < 0 ? value.negate() : value;
                bySize.computeIfAbsent(size, key -> new ArrayList<>()).add(q);
            }
        }
        rows("rings ", numbers, false, p);
        List<Integer> twins = new ArrayList<>();
        for (List<Integer> group : bySize.values()) {
            for (int i = 0; i < group.size(); i++) {
                for (int j = i + 1; j < group.size(); j++) {
                    twins.add(1000 * group.get(i) + group.get(j));
                }
            }
        }
        Collections.sort(twins);
        rows("twins ", twins, true, p);
    }

    private static void wrong() {
        CHECK.yes("some p has TWINS", X.one().twins(65, NONE) > 0);
        for (int p : new int[] {1, 0, -1, -7, 1001, Integer.MIN_VALUE, Integer.MAX_VALUE}) {
            CHECK.due("same p " + p, NONE, X.one().same(p, 1, 1));
            CHECK.due("ring p " + p, NONE, X.one().ring(p, 1));
            for (int i = -2; i < 2; i++) {
                CHECK.due("rings p " + p, NONE, X.one().rings(p, i));
                CHECK.due("twins p " + p, NONE, X.one().twins(p, i));
            }
        }
        CHECK.due("same, q has a common divisor", NONE, X.one().same(10, 5, 1));
        CHECK.due("same, o has a common divisor", NONE, X.one().same(10, 1, 4));
        CHECK.due("ring, common divisor", NONE, X.one().ring(1000, 500));
        CHECK.due("ring, q 0", NONE, X.one().ring(2, 0));
    }
}
