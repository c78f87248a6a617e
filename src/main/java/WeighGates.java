import java.util.Arrays;

/** Gates that weigh: tables of a few inputs, their least weighings, their kinds, and nets of gates. */
public final class WeighGates {

    public static final int UNKNOWN = -1, OUTSIDE = -2, STATE = -3, FULL = -4, NONE = -1000000;

    private static final int SLOTS = 8;
    private static final int MOST_INPUTS = 5;
    private static final int MOST_INPUTS_OF_KINDS = 4;
    private static final int MOST_INPUTS_OF_PAIRS = 3;
    private static final int MOST_INPUTS_OF_NETS = 4;
    private static final int WITNESS_ROWS = 4;

    private static final long WEIGHTS_END = 10000000000L;
    private static final int WEIGHT_STEP = 100;
    private static final int WEIGHT_SHIFT = 50;
    private static final int FARTHEST_BOUND = 999;
    private static final int FARTHEST_NET_WEIGHT = 9;
    private static final int FARTHEST_NET_BOUND = 99;

    // Facts of mathematics, by the number of inputs. To count 65536 tables anew in each call
    // would be dear; the project's tests count them.
    private static final int[] GATES_OF = {0, 4, 14, 104, 1882};
    private static final int[] KINDS_OF = {0, 2, 4, 14};
    private static final int[] KINDS_OF_GATES_OF = {0, 2, 3, 6};

    private final int[] slotInputs = new int[SLOTS];
    private final long[] slotBits = new long[SLOTS];
    private final Witness proof = new Witness();
    private final LeastWeighing least = new LeastWeighing();
    private final Kind kind = new Kind();
    private final GatePair pair = new GatePair();
    private final Net network = new Net();

    public WeighGates() {
        Arrays.fill(slotInputs, 1);
    }

    // ---- tables

    public int table(int slot, int n, long bits) {
        if (!isSlot(slot)) {
            return UNKNOWN;
        }
        if (!isWithin(n, 1, MOST_INPUTS) || bits < 0 || bits > Rows.all(n)) {
            return OUTSIDE;
        }
        return keep(slot, n, bits);
    }

    public long weigh(int to, int n, long weights, int bound) {
        if (!isSlot(to)) {
            return UNKNOWN;
        }
        if (!isWithin(n, 1, MOST_INPUTS) || weights < 0 || weights >= WEIGHTS_END
                || !isWithin(bound, -FARTHEST_BOUND, FARTHEST_BOUND)) {
            return OUTSIDE;
        }
        long told = 0;
        for (int row = 0; row < Rows.number(n); row++) {
            if (sumAt(row, n, weights) >= bound) {
                told |= 1L << row;
            }
        }
        keep(to, n, told);
        return told;
    }

    public long bits(int slot) {
        return isSlot(slot) ? slotBits[slot] : UNKNOWN;
    }

    public int inputs(int slot) {
        return isSlot(slot) ? slotInputs[slot] : UNKNOWN;
    }

    public int most(int to, int a, int b, int c) {
        if (!isSlot(to) || !isSlot(a) || !isSlot(b) || !isSlot(c)) {
            return UNKNOWN;
        }
        if (slotInputs[a] != slotInputs[b] || slotInputs[a] != slotInputs[c]) {
            return STATE;
        }
        long both = slotBits[a] & slotBits[b];
        long either = slotBits[a] | slotBits[b];
        return keep(to, slotInputs[a], both | either & slotBits[c]);
    }

    public int turn(int to, int a, int input) {
        if (!isSlot(to) || !isSlot(a) || input != NONE && !isInput(a, input)) {
            return UNKNOWN;
        }
        int n = slotInputs[a];
        long turned = input == NONE
                ? slotBits[a] ^ Rows.all(n)
                : Rows.inputTurned(slotBits[a], input);
        return keep(to, n, turned);
    }

    public int hold(int to, int a, int input, boolean is) {
        if (!isSlot(to) || !isInput(a, input)) {
            return UNKNOWN;
        }
        if (slotInputs[a] == 1) {
            return STATE;
        }
        int left = slotInputs[a] - 1;
        keep(to, left, Rows.inputHeld(left, slotBits[a], input, is));
        return left;
    }

    public int matters(int slot, int input) {
        if (!isInput(slot, input)) {
            return UNKNOWN;
        }
        return Rows.inputTurned(slotBits[slot], input) != slotBits[slot] ? 1 : 0;
    }

    public int ones(int slot, int input) {
        if (!isSlot(slot) || input != NONE && !isInput(slot, input)) {
            return UNKNOWN;
        }
        return input == NONE ? Long.bitCount(slotBits[slot]) : Rows.onesWith(slotBits[slot], input);
    }

    // ---- gates

    public int gate(int slot) {
        if (!isSlot(slot)) {
            return UNKNOWN;
        }
        return tellsGate(slot) ? 1 : 0;
    }

    public int weight(int slot, int input) {
        if (!isInput(slot, input)) {
            return UNKNOWN;
        }
        return findLeast(slot) ? least.weights[input] : NONE;
    }

    public int bound(int slot) {
        if (!isSlot(slot)) {
            return UNKNOWN;
        }
        return findLeast(slot) ? least.bound : NONE;
    }

    public int size(int slot) {
        if (!isSlot(slot)) {
            return UNKNOWN;
        }
        return findLeast(slot) ? least.size : NONE;
    }

    public int witness(int slot, int i) {
        if (!isSlot(slot)) {
            return UNKNOWN;
        }
        if (!isWithin(i, 0, WITNESS_ROWS - 1)) {
            return OUTSIDE;
        }
        return tellsGate(slot) ? NONE : proof.rows[i];
    }

    public int slack(int slot) {
        if (!isSlot(slot)) {
            return UNKNOWN;
        }
        return findLeast(slot) ? least.thousandthsOff() : NONE;
    }

    // ---- kinds

    public long chief(int slot) {
        if (!isSlot(slot)) {
            return UNKNOWN;
        }
        if (slotInputs[slot] > MOST_INPUTS_OF_KINDS) {
            return STATE;
        }
        kind.find(slotInputs[slot], slotBits[slot]);
        return kind.leastBits;
    }

    public int kin(int slot) {
        if (!isSlot(slot)) {
            return UNKNOWN;
        }
        if (slotInputs[slot] > MOST_INPUTS_OF_KINDS) {
            return STATE;
        }
        kind.find(slotInputs[slot], slotBits[slot]);
        return kind.members();
    }

    public int gates(int n) {
        return isWithin(n, 1, MOST_INPUTS_OF_KINDS) ? GATES_OF[n] : OUTSIDE;
    }

    public int kinds(int n, boolean all) {
        if (!isWithin(n, 1, MOST_INPUTS_OF_PAIRS)) {
            return OUTSIDE;
        }
        return all ? KINDS_OF[n] : KINDS_OF_GATES_OF[n];
    }

    public int fewest(int slot) {
        if (!isSlot(slot)) {
            return UNKNOWN;
        }
        if (slotInputs[slot] > MOST_INPUTS_OF_PAIRS) {
            return STATE;
        }
        // Two gates are enough for every table of three inputs: the project's tests try all.
        return tellsGate(slot) ? 1 : 2;
    }

    public int first(int slot) {
        if (!isSlot(slot)) {
            return UNKNOWN;
        }
        if (slotInputs[slot] > MOST_INPUTS_OF_PAIRS) {
            return STATE;
        }
        return tellsGate(slot) ? NONE : pair.leastFirst(slotInputs[slot], slotBits[slot]);
    }

    // ---- nets

    public int net(int n) {
        if (!isWithin(n, 1, MOST_INPUTS_OF_NETS)) {
            return OUTSIDE;
        }
        int had = network.gateCount;
        network.clear(n);
        return had;
    }

    public int put(int from, int w) {
        if (!isWithin(from, 0, network.inputCount + network.gateCount - 1)) {
            return UNKNOWN;
        }
        if (!isWithin(w, -FARTHEST_NET_WEIGHT, FARTHEST_NET_WEIGHT)) {
            return OUTSIDE;
        }
        return network.swapNextWeight(from, w);
    }

    public int add(int bound) {
        if (!isWithin(bound, -FARTHEST_NET_BOUND, FARTHEST_NET_BOUND)) {
            return OUTSIDE;
        }
        if (network.gateCount >= Net.MOST_GATES) {
            return FULL;
        }
        return network.append(bound);
    }

    public int tell(int to, int gate) {
        if (!isSlot(to) || !isGateOfNet(gate)) {
            return UNKNOWN;
        }
        return keep(to, network.inputCount, network.told[gate]);
    }

    public int unlike(int slot) {
        if (!isSlot(slot)) {
            return UNKNOWN;
        }
        if (network.gateCount == 0 || network.inputCount != slotInputs[slot]) {
            return STATE;
        }
        long differing = network.lastTold() ^ slotBits[slot];
        return differing == 0 ? NONE : Long.numberOfTrailingZeros(differing);
    }

    public int depth(int gate) {
        return isGateOfNet(gate) ? network.depths[gate] : UNKNOWN;
    }

    public int idle(int gate, boolean is) {
        if (!isGateOfNet(gate)) {
            return UNKNOWN;
        }
        return network.lastToldWith(gate, is) == network.lastTold() ? 1 : 0;
    }

    public int count(int what) {
        switch (what) {
            case 0:
                return network.inputCount;
            case 1:
                return network.gateCount;
            default:
                return OUTSIDE;
        }
    }

    // ---- what the calls share

    private static boolean isWithin(int number, int from, int to) {
        return number >= from && number <= to;
    }

    private static boolean isSlot(int slot) {
        return isWithin(slot, 0, SLOTS - 1);
    }

    private boolean isInput(int slot, int input) {
        return isSlot(slot) && isWithin(input, 0, slotInputs[slot] - 1);
    }

    private boolean isGateOfNet(int gate) {
        return isWithin(gate, 0, network.gateCount - 1);
    }

    private int keep(int slot, int n, long bits) {
        slotInputs[slot] = n;
        slotBits[slot] = bits;
        return Long.bitCount(bits);
    }

    private static int sumAt(int row, int n, long weights) {
        int sum = 0;
        long rest = weights;
        for (int input = 0; input < n; input++) {
            if (Rows.hasInput(row, input)) {
                sum += (int) (rest % WEIGHT_STEP) - WEIGHT_SHIFT;
            }
            rest /= WEIGHT_STEP;
        }
        return sum;
    }

    /** Whether a slot's table is a gate; if not, the proof holds its witness. */
    private boolean tellsGate(int slot) {
        return !proof.find(slotInputs[slot], slotBits[slot]);
    }

    /** Whether a slot's table is a gate; if so, the least weighing is its own. */
    private boolean findLeast(int slot) {
        return tellsGate(slot) && least.find(slotInputs[slot], slotBits[slot]);
    }

    /** Tables of up to five inputs as the bits of a long. */
    private static final class Rows {

        private static final long[] WITH_INPUT =
                {0xAAAAAAAAL, 0xCCCCCCCCL, 0xF0F0F0F0L, 0xFF00FF00L, 0xFFFF0000L};

        static int number(int n) {
            return 1 << n;
        }

        static long all(int n) {
            return (1L << number(n)) - 1;
        }

        static boolean isOne(long bits, int row) {
            return (bits >>> row & 1) != 0;
        }

        static boolean hasInput(int row, int input) {
            return (row >> input & 1) != 0;
        }

        static int onesWith(long bits, int input) {
            return Long.bitCount(bits & WITH_INPUT[input]);
        }

        static long inputTurned(long bits, int input) {
            long with = WITH_INPUT[input];
            int shift = 1 << input;
            return (bits & with) >>> shift | bits << shift & with;
        }

        /** The table with two inputs changed in place, the lesser one told first. */
        static long inputsSwapped(long bits, int low, int high) {
            long onlyLow = WITH_INPUT[low] & ~WITH_INPUT[high];
            long onlyHigh = WITH_INPUT[high] & ~WITH_INPUT[low];
            int shift = (1 << high) - (1 << low);
            return bits & ~(onlyLow | onlyHigh)
                    | (bits & onlyLow) << shift
                    | (bits & onlyHigh) >>> shift;
        }

        static long inputHeld(int left, long bits, int input, boolean is) {
            int held = is ? 1 << input : 0;
            int below = (1 << input) - 1;
            long told = 0;
            for (int row = 0; row < number(left); row++) {
                int from = (row & ~below) << 1 | held | row & below;
                if (isOne(bits, from)) {
                    told |= 1L << row;
                }
            }
            return told;
        }
    }

    /** The sums of a table's rows under weights, and how those of ones and of zeros lie. */
    private static final class RowSums {

        final int[] sums = new int[1 << MOST_INPUTS];
        int leastOfOnes;
        int greatestOfZeros;

        /** Weights are set from input 0 on: each makes the sums of the rows up to its own last one. */
        void setWeight(int input, int weight) {
            int rows = Rows.number(input);
            for (int row = 0; row < rows; row++) {
                sums[row + rows] = sums[row] + weight;
            }
        }

        void findEnds(int n, long bits) {
            leastOfOnes = Integer.MAX_VALUE;
            greatestOfZeros = Integer.MIN_VALUE;
            for (int row = 0; row < Rows.number(n); row++) {
                if (Rows.isOne(bits, row)) {
                    leastOfOnes = Math.min(leastOfOnes, sums[row]);
                } else {
                    greatestOfZeros = Math.max(greatestOfZeros, sums[row]);
                }
            }
        }
    }

    /**
     * The first two pairs of rows that prove a table to be no gate. Up to eight inputs a table
     * without such pairs always is a gate, so this decides what is one.
     */
    private static final class Witness {

        final int[] rows = new int[WITNESS_ROWS];

        boolean find(int n, long bits) {
            for (int a = 0; a < Rows.number(n); a++) {
                if (Rows.isOne(bits, a) && findSecond(n, bits, a)) {
                    return true;
                }
            }
            return false;
        }

        // A row with itself proves nothing: only that row twice has its inputs as often.
        private boolean findSecond(int n, long bits, int a) {
            for (int b = a + 1; b < Rows.number(n); b++) {
                if (Rows.isOne(bits, b) && findZeros(bits, a, b)) {
                    return true;
                }
            }
            return false;
        }

        private boolean findZeros(long bits, int a, int b) {
            int both = a & b;
            int either = a | b;
            for (int c = both; c <= either; c++) {
                int d = both + either - c;
                if (c > d) {
                    return false;
                }
                boolean asOften = (c & both) == both && (c | either) == either;
                if (asOften && !Rows.isOne(bits, c) && !Rows.isOne(bits, d)) {
                    rows[0] = a;
                    rows[1] = b;
                    rows[2] = c;
                    rows[3] = d;
                    return true;
                }
            }
            return false;
        }
    }

    /** The least weighing of a gate, sought by growing sums of sizes. */
    private static final class LeastWeighing {

        // No gate of five inputs needs more: the project's tests go through all of them.
        private static final int GREATEST_SIZE = 16;
        private static final int THOUSAND = 1000;
        private static final int HALF = 500;

        final int[] weights = new int[MOST_INPUTS];
        int bound;
        int size;

        private int n;
        private long bits;
        // By how many ones an input has more when it is 1 than when it is 0: in a gate the sign is
        // that of its weight, and 0 says that it does not matter.
        private final int[] pulls = new int[MOST_INPUTS];
        private final int[] floors = new int[MOST_INPUTS];
        private final RowSums weighed = new RowSums();

        boolean find(int inputCount, long ofBits) {
            n = inputCount;
            bits = ofBits;
            for (int input = 0; input < n; input++) {
                pulls[input] = 2 * Rows.onesWith(bits, input) - Long.bitCount(bits);
            }
            int floor = findFloors();
            for (int spare = 0; floor + spare <= GREATEST_SIZE; spare++) {
                if (share(0, spare)) {
                    size = floor + spare;
                    return true;
                }
            }
            return false;
        }

        // In a gate, an input that pulls harder than another has the greater size in every
        // weighing. So each size has a floor, and the search among sizes above it is short.
        private int findFloors() {
            for (int input = 0; input < n; input++) {
                floors[input] = pulls[input] == 0 ? 0 : 1;
            }
            int sum = 0;
            // A floor rises by one with each harder pull, and there are no more of these than inputs.
            for (int round = 0; round < n; round++) {
                sum = 0;
                for (int input = 0; input < n; input++) {
                    raiseFloor(input);
                    sum += floors[input];
                }
            }
            return sum;
        }

        private void raiseFloor(int input) {
            for (int other = 0; other < n; other++) {
                if (Math.abs(pulls[other]) < Math.abs(pulls[input])) {
                    floors[input] = Math.max(floors[input], floors[other] + 1);
                }
            }
        }

        /** Shares what is spare among the sizes of the inputs from one on, least sizes first. */
        private boolean share(int input, int spare) {
            if (input >= n) {
                return spare == 0 && separates();
            }
            int least = input == n - 1 ? spare : 0;
            int most = pulls[input] == 0 ? 0 : spare;
            for (int extra = least; extra <= most; extra++) {
                int part = floors[input] + extra;
                if (keepsOrder(input, part)) {
                    weights[input] = pulls[input] < 0 ? -part : part;
                    weighed.setWeight(input, weights[input]);
                    if (share(input + 1, spare - extra)) {
                        return true;
                    }
                }
            }
            return false;
        }

        private boolean keepsOrder(int input, int part) {
            int pull = Math.abs(pulls[input]);
            for (int other = 0; other < input; other++) {
                int otherPull = Math.abs(pulls[other]);
                int otherPart = Math.abs(weights[other]);
                if (otherPull > pull && otherPart <= part || otherPull < pull && otherPart >= part) {
                    return false;
                }
            }
            return true;
        }

        private boolean separates() {
            weighed.findEnds(n, bits);
            if (weighed.greatestOfZeros >= weighed.leastOfOnes) {
                return false;
            }
            boolean hasZeros = bits != Rows.all(n);
            bound = hasZeros ? weighed.greatestOfZeros + 1 : weighed.leastOfOnes;
            return true;
        }

        int thousandthsOff() {
            int most = THOUSAND;
            for (int row = 1; row < Rows.number(n); row++) {
                int room = Math.abs(THOUSAND * (weighed.sums[row] - bound) + HALF);
                int weightsIn = Integer.bitCount(row);
                if (weightsIn > 0) {
                    // Less one: all weights off at once may come near the bound, not just to it.
                    most = Math.min(most, (room - 1) / weightsIn);
                }
            }
            return most;
        }
    }

    /** The chief of a table's kind, and in how many of all ways the table comes to it. */
    private static final class Kind {

        long leastBits;

        private int n;
        private int ways;
        private int waysToLeast;

        void find(int inputCount, long bits) {
            n = inputCount;
            leastBits = bits;
            ways = 0;
            waysToLeast = 0;
            changePlaces(0, bits);
        }

        // As many ways lead to each table of a kind as to its chief.
        int members() {
            return waysToLeast > 0 ? ways / waysToLeast : 0;
        }

        private void changePlaces(int place, long bits) {
            if (place >= n) {
                turnInputs(bits);
                return;
            }
            for (int other = place; other < n; other++) {
                changePlaces(place + 1, Rows.inputsSwapped(bits, place, other));
            }
        }

        // Each step turns one input, so that after the last step each choice of inputs was turned.
        private void turnInputs(long bits) {
            long turned = bits;
            meet(turned);
            for (int step = 1; step < 1 << n; step++) {
                turned = Rows.inputTurned(turned, Integer.numberOfTrailingZeros(step));
                meet(turned);
            }
        }

        private void meet(long bits) {
            compare(bits);
            compare(bits ^ Rows.all(n));
        }

        private void compare(long bits) {
            ways++;
            if (bits < leastBits) {
                leastBits = bits;
                waysToLeast = 0;
            }
            if (bits == leastBits) {
                waysToLeast++;
            }
        }
    }

    /**
     * Nets of two gates for tables of up to three inputs. With fixed weights of inputs, the second
     * gate tells a table, if the first one tells apart the zeros and the ones that lie in the
     * wrong order of sums: its weight then shifts one side past the other.
     */
    private static final class GatePair {

        // Up to signs, three weights order the sums of rows in one of these ways alone, if no two
        // sums are alike (and where some are, a small change of weights parts them).
        private static final int[] SIZES = {
            1, 2, 4, 1, 4, 2, 2, 1, 4, 2, 4, 1, 4, 1, 2, 4, 2, 1,
            2, 3, 4, 2, 4, 3, 3, 2, 4, 3, 4, 2, 4, 2, 3, 4, 3, 2};
        private static final int SIZES_IN_ONE = 3;
        private static final int SIGNS = 8;
        private static final int ORDERS = 96;

        private final Witness proof = new Witness();
        private final RowSums weighed = new RowSums();
        private final long[] wrongZeros = new long[ORDERS];
        private final long[] wrongOnes = new long[ORDERS];

        int leastFirst(int n, long bits) {
            for (int order = 0; order < ORDERS; order++) {
                weighRows(n, order);
                findWrongRows(n, bits, order);
            }
            for (int told = 0; told <= Rows.all(n); told++) {
                if (partsSomeOrder(told) && !proof.find(n, told)) {
                    return told;
                }
            }
            return NONE;
        }

        private void weighRows(int n, int order) {
            int start = order / SIGNS * SIZES_IN_ONE;
            for (int input = 0; input < n; input++) {
                int size = SIZES[start + input];
                weighed.setWeight(input, Rows.hasInput(order % SIGNS, input) ? -size : size);
            }
        }

        private void findWrongRows(int n, long bits, int order) {
            weighed.findEnds(n, bits);
            wrongZeros[order] = 0;
            wrongOnes[order] = 0;
            for (int row = 0; row < Rows.number(n); row++) {
                boolean one = Rows.isOne(bits, row);
                if (one && weighed.sums[row] < weighed.greatestOfZeros) {
                    wrongOnes[order] |= 1L << row;
                } else if (!one && weighed.sums[row] > weighed.leastOfOnes) {
                    wrongZeros[order] |= 1L << row;
                }
            }
        }

        private boolean partsSomeOrder(long told) {
            for (int order = 0; order < ORDERS; order++) {
                long seen = told & (wrongZeros[order] | wrongOnes[order]);
                if (seen == wrongZeros[order] || seen == wrongOnes[order]) {
                    return true;
                }
            }
            return false;
        }
    }

    /** A net of gates; the row of weights behind its last gate is what is put for the next one. */
    private static final class Net {

        static final int MOST_GATES = 8;

        int inputCount = 1;
        int gateCount;
        final long[] told = new long[MOST_GATES];
        final int[] depths = new int[MOST_GATES];

        private final int[][] weights = new int[MOST_GATES + 1][MOST_INPUTS_OF_NETS + MOST_GATES];
        private final int[] bounds = new int[MOST_GATES];
        private final long[] supposed = new long[MOST_GATES];

        void clear(int n) {
            inputCount = n;
            gateCount = 0;
            Arrays.fill(weights[0], 0);
        }

        int swapNextWeight(int from, int w) {
            int was = weights[gateCount][from];
            weights[gateCount][from] = w;
            return was;
        }

        int append(int bound) {
            int gate = gateCount;
            bounds[gate] = bound;
            told[gate] = toldBy(gate, told);
            depths[gate] = depthOf(gate);
            gateCount = gate + 1;
            Arrays.fill(weights[gateCount], 0);
            return gate;
        }

        long lastTold() {
            return gateCount > 0 ? told[gateCount - 1] : 0;
        }

        long lastToldWith(int fixed, boolean is) {
            for (int gate = 0; gate < gateCount; gate++) {
                if (gate == fixed) {
                    supposed[gate] = is ? Rows.all(inputCount) : 0;
                } else {
                    supposed[gate] = toldBy(gate, supposed);
                }
            }
            return gateCount > 0 ? supposed[gateCount - 1] : 0;
        }

        private long toldBy(int gate, long[] ahead) {
            long bits = 0;
            for (int row = 0; row < Rows.number(inputCount); row++) {
                if (sumAt(row, gate, ahead) >= bounds[gate]) {
                    bits |= 1L << row;
                }
            }
            return bits;
        }

        private int sumAt(int row, int gate, long[] ahead) {
            int sum = 0;
            for (int input = 0; input < inputCount; input++) {
                if (Rows.hasInput(row, input)) {
                    sum += weights[gate][input];
                }
            }
            for (int other = 0; other < gate; other++) {
                if (Rows.isOne(ahead[other], row)) {
                    sum += weights[gate][inputCount + other];
                }
            }
            return sum;
        }

        private int depthOf(int gate) {
            int deepest = 0;
            for (int other = 0; other < gate; other++) {
                if (weights[gate][inputCount + other] != 0) {
                    deepest = Math.max(deepest, depths[other]);
                }
            }
            return deepest + 1;
        }
    }
}
