import java.util.ArrayList;
import java.util.Arrays;
import java.util.HashMap;
import java.util.List;
import java.util.Map;
import java.util.TreeSet;

/** What the document's terms say, worked out straight from their words, slowly and for all tables. */
final class Oracle {

    static final int NONE = -1000000;
    private static final int[] KNOWN_GATES = {0, 4, 14, 104, 1882, 94572};
    /** No gate needs a sum of sizes above 16; one more sum is tried, and must find nothing new. */
    private static final int SUM_END = 18;
    private static final int FARTHEST_NET_WEIGHT = 9;

    /** Weights and behind them the bound. */
    private static final Map<Integer, Map<Long, int[]>> LEAST = new HashMap<>();
    private static int likeOnes;
    private static final int[][] CHIEFS = new int[5][];
    private static final int[][] FIRSTS = new int[4][];

    private Oracle() {
    }

    static int rows(int n) {
        return 1 << n;
    }

    static long all(int n) {
        return n == 5 ? 4294967295L : (1L << rows(n)) - 1;
    }

    static boolean one(long bits, int row) {
        return (bits / (1L << row)) % 2 == 1;
    }

    static int onesOf(int n, long bits) {
        int ones = 0;
        for (int row = 0; row < rows(n); row++) {
            ones += one(bits, row) ? 1 : 0;
        }
        return ones;
    }

    static long weighed(int n, int[] weights, int bound) {
        long bits = 0;
        for (int row = 0; row < rows(n); row++) {
            if (sum(n, weights, row) >= bound) {
                bits += 1L << row;
            }
        }
        return bits;
    }

    static int sum(int n, int[] weights, int row) {
        int sum = 0;
        for (int i = 0; i < n; i++) {
            sum += (row >> i) % 2 == 1 ? weights[i] : 0;
        }
        return sum;
    }

    // ---- least weighings: all weights by growing sum of sizes, and of one sum in order of sizes

    static Map<Long, int[]> leastWeighings(int n) {
        return LEAST.computeIfAbsent(n, Oracle::findLeastWeighings);
    }

    private static Map<Long, int[]> findLeastWeighings(int n) {
        Map<Long, int[]> found = new HashMap<>();
        for (int size = 0; size < SUM_END; size++) {
            addWeighings(found, n, 0, size, new int[n]);
        }
        if (found.size() != KNOWN_GATES[n]) {
            throw new IllegalStateException("gates of " + n + " inputs: " + found.size());
        }
        return found;
    }

    private static void addWeighings(Map<Long, int[]> found, int n, int i, int left, int[] sizes) {
        if (i == n) {
            if (left == 0) {
                addSigned(found, n, 0, sizes, new int[n]);
            }
            return;
        }
        for (int size = 0; size <= left; size++) {
            sizes[i] = size;
            addWeighings(found, n, i + 1, left - size, sizes);
        }
    }

    private static void addSigned(Map<Long, int[]> found, int n, int i, int[] sizes, int[] weights) {
        if (i == n) {
            addBounds(found, n, weights);
            return;
        }
        weights[i] = sizes[i];
        addSigned(found, n, i + 1, sizes, weights);
        if (sizes[i] != 0) {
            weights[i] = -sizes[i];
            addSigned(found, n, i + 1, sizes, weights);
        }
    }

    private static void addBounds(Map<Long, int[]> found, int n, int[] weights) {
        TreeSet<Integer> sums = new TreeSet<>();
        for (int row = 0; row < rows(n); row++) {
            sums.add(sum(n, weights, row));
        }
        int bound = sums.first();
        for (int sum : sums) {
            putNew(found, n, weights, bound);
            bound = sum + 1;
        }
        putNew(found, n, weights, bound);
    }

    private static void putNew(Map<Long, int[]> found, int n, int[] weights, int bound) {
        long bits = weighed(n, weights, bound);
        int[] earlier = found.get(bits);
        if (earlier == null) {
            int[] all = Arrays.copyOf(weights, n + 1);
            all[n] = bound;
            found.put(bits, all);
        } else if (sumOfSizes(n, earlier) == sumOfSizes(n, weights)) {
            likeOnes++;
        }
    }

    private static int sumOfSizes(int n, int[] weights) {
        int size = 0;
        for (int i = 0; i < n; i++) {
            size += Math.abs(weights[i]);
        }
        return size;
    }

    /** How many weighings of up to n inputs are of the least sum of sizes, as another of that table is. */
    static int likeOnes(int n) {
        for (int inputs = 1; inputs <= n; inputs++) {
            leastWeighings(inputs);
        }
        return likeOnes;
    }

    static boolean isGate(int n, long bits) {
        return leastWeighings(n).containsKey(bits);
    }

    static int weight(int n, long bits, int i) {
        return isGate(n, bits) ? leastWeighings(n).get(bits)[i] : NONE;
    }

    static int bound(int n, long bits) {
        return isGate(n, bits) ? leastWeighings(n).get(bits)[n] : NONE;
    }

    static int size(int n, long bits) {
        if (!isGate(n, bits)) {
            return NONE;
        }
        return sumOfSizes(n, leastWeighings(n).get(bits));
    }

    static int slack(int n, long bits) {
        if (!isGate(n, bits)) {
            return NONE;
        }
        int e = 0;
        while (e < 1000 && maybeOff(n, bits, leastWeighings(n).get(bits), e + 1)) {
            e++;
        }
        return e;
    }

    /** Whether this is the slack of a gate, without trying all that is less: what may be off by e may be by less. */
    static boolean isSlack(int n, long bits, int e) {
        int[] weighing = leastWeighings(n).get(bits);
        return e >= 0 && e <= 1000 && maybeOff(n, bits, weighing, e)
                && (e == 1000 || !maybeOff(n, bits, weighing, e + 1));
    }

    /** Tries each weight e thousandths more and e thousandths less, in all choices of these. */
    private static boolean maybeOff(int n, long bits, int[] weighing, int e) {
        int[] off = new int[n];
        for (int choice = 0; choice < rows(n); choice++) {
            for (int i = 0; i < n; i++) {
                off[i] = 1000 * weighing[i] + ((choice >> i) % 2 == 1 ? e : -e);
            }
            for (int row = 0; row < rows(n); row++) {
                int over = sum(n, off, row) - (1000 * weighing[n] - 500);
                if (one(bits, row) ? over <= 0 : over >= 0) {
                    return false;
                }
            }
        }
        return true;
    }

    // ---- witnesses

    static int[] witness(int n, long bits) {
        for (int a = 0; a < rows(n); a++) {
            for (int b = a; b < rows(n); b++) {
                for (int c = 0; c < rows(n); c++) {
                    for (int d = c; d < rows(n); d++) {
                        if (one(bits, a) && one(bits, b) && !one(bits, c) && !one(bits, d)
                                && alike(n, a, b, c, d)) {
                            return new int[] {a, b, c, d};
                        }
                    }
                }
            }
        }
        return null;
    }

    private static boolean alike(int n, int a, int b, int c, int d) {
        for (int i = 0; i < n; i++) {
            if ((a >> i) % 2 + (b >> i) % 2 != (c >> i) % 2 + (d >> i) % 2) {
                return false;
            }
        }
        return true;
    }

    /** The tables that an input turned from 0 to 1 never makes 0: of each two halves the lower has no more ones. */
    static List<Long> risingTables(int n) {
        if (n == 0) {
            return List.of(0L, 1L);
        }
        List<Long> rising = new ArrayList<>();
        for (long low : risingTables(n - 1)) {
            for (long high : risingTables(n - 1)) {
                if ((low & ~high) == 0) {
                    rising.add(low + (high << rows(n - 1)));
                }
            }
        }
        return rising;
    }

    // ---- kinds: what can be reached by one change after the other

    /** The chief of each table of n inputs, 1 to 4. */
    static int[] chiefs(int n) {
        if (CHIEFS[n] == null) {
            int tables = (int) all(n) + 1;
            int[] chiefs = new int[tables];
            Arrays.fill(chiefs, -1);
            for (int bits = 0; bits < tables; bits++) {
                if (chiefs[bits] < 0) {
                    spread(n, bits, chiefs);
                }
            }
            CHIEFS[n] = chiefs;
        }
        return CHIEFS[n];
    }

    private static void spread(int n, int chief, int[] chiefs) {
        int[] queue = new int[800];
        int length = 1;
        queue[0] = chief;
        chiefs[chief] = chief;
        for (int at = 0; at < length; at++) {
            for (int change = 0; change < 2 * n; change++) {
                int next = changed(n, queue[at], change);
                if (chiefs[next] < 0) {
                    chiefs[next] = chief;
                    queue[length++] = next;
                }
            }
        }
    }

    /** Below n: an input turned; n: all turned; above: an input and the one behind it change places. */
    private static int changed(int n, int bits, int change) {
        int result = 0;
        for (int row = 0; row < rows(n); row++) {
            int from = row;
            if (change < n) {
                from = row ^ (1 << change);
            } else if (change > n) {
                int low = change - n - 1;
                int x = (row >> low) % 2;
                int y = (row >> (low + 1)) % 2;
                from = row - (x << low) - (y << (low + 1)) + (y << low) + (x << (low + 1));
            }
            if (one(bits, from) != (change == n)) {
                result += 1 << row;
            }
        }
        return result;
    }

    static int kin(int n, long bits) {
        int[] chiefs = chiefs(n);
        int members = 0;
        for (int chief : chiefs) {
            members += chief == chiefs[(int) bits] ? 1 : 0;
        }
        return members;
    }

    static int kinds(int n, boolean all) {
        int kinds = 0;
        for (int bits = 0; bits <= all(n); bits++) {
            if (chiefs(n)[bits] == bits && (all || isGate(n, bits))) {
                kinds++;
            }
        }
        return kinds;
    }

    // ---- nets of two: each first gate with all second ones

    static int first(int n, long bits) {
        if (isGate(n, bits)) {
            return NONE;
        }
        if (FIRSTS[n] == null) {
            FIRSTS[n] = findFirsts(n);
        }
        return FIRSTS[n][(int) bits];
    }

    private static int[] findFirsts(int n) {
        int[] firsts = new int[(int) all(n) + 1];
        Arrays.fill(firsts, NONE);
        long[] ascending = leastWeighings(n).keySet().stream().mapToLong(x -> x).sorted().toArray();
        for (long told : ascending) {
            addSeconds(firsts, n, told, 0, new int[rows(n)]);
        }
        return firsts;
    }

    /** Tries all weights of inputs from i on, and behind these of the first gate; the sums are those so far. */
    private static void addSeconds(int[] firsts, int n, long told, int i, int[] sums) {
        if (i > n) {
            addSecondBounds(firsts, (int) told, sums);
            return;
        }
        for (int w = -FARTHEST_NET_WEIGHT; w <= FARTHEST_NET_WEIGHT; w++) {
            int[] with = sums.clone();
            for (int row = 0; row < rows(n); row++) {
                boolean on = i < n ? (row >> i) % 2 == 1 : one(told, row);
                with[row] += on ? w : 0;
            }
            addSeconds(firsts, n, told, i + 1, with);
        }
    }

    /** Other bounds give no more: each tells what the next greater sum tells, or, above all sums, 0 always. */
    private static void addSecondBounds(int[] firsts, int told, int[] sums) {
        for (int bound : sums) {
            int bits = 0;
            for (int row = 0; row < sums.length; row++) {
                bits += sums[row] >= bound ? 1 << row : 0;
            }
            if (firsts[bits] == NONE) {
                firsts[bits] = told;
            }
        }
    }
}
