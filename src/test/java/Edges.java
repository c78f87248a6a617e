import java.util.List;
import java.util.function.Supplier;

/** What the tests of boundary cases share: objects to ask, and a look at what a call has changed. */
final class Edges {

    /** One call with its arguments. */
    interface Call {
        long on(WeighGates x);
    }

    static final int UNKNOWN = -1, OUTSIDE = -2, STATE = -3, FULL = -4, NONE = -1000000;
    static final int MIN = Integer.MIN_VALUE, MAX = Integer.MAX_VALUE;
    /** The first that are refused on each side, and numbers far out. */
    static final int[] NO_SLOTS = {-1, 8, NONE, MIN, MAX};
    /** The table of each input alone, for five inputs. */
    private static final long[] OF_INPUT = {0xAAAAAAAAL, 0xCCCCCCCCL, 0xF0F0F0F0L, 0xFF00FF00L, 0xFFFF0000L};

    private final Check check = new Check();

    void finish() {
        check.finish();
    }

    void due(String call, long got, long want) {
        check.due(call, got, want);
    }

    /** The call answers this, and a later call shows no change. */
    void changesNothing(String call, Supplier<WeighGates> start, long want, Call asked) {
        WeighGates x = start.get();
        check.due(call, asked.on(x), want);
        List<String> got = Look.at(x);
        List<String> before = Look.at(start.get());
        check.holds("after " + call + ": " + got + ", due is " + before, got.equals(before));
    }

    /** A refusal of a call that must tell it whatever the object holds. */
    void refusedAlways(String call, long want, Call asked) {
        changesNothing(call + " of a new object", WeighGates::new, want, asked);
        changesNothing(call, Edges::busy, want, asked);
        changesNothing(call + " with a full net", Edges::full, want, asked);
    }

    /** The greatest bits of n inputs. */
    static long greatest(int n) {
        return n == 5 ? 4294967295L : n == 4 ? 65535 : n == 3 ? 255 : n == 2 ? 15 : 3;
    }

    static long tableOfInput(int n, int input) {
        return OF_INPUT[input] & greatest(n);
    }

    /** No two neighbours have as many inputs: 1, 2, 3, 4, 5, 4, 3, 2; slots 1, 5 and 6 are no gates. */
    private static WeighGates withTables() {
        WeighGates x = new WeighGates();
        x.table(0, 1, 2);
        x.table(1, 2, 6);
        x.table(2, 3, 232);
        x.table(3, 4, 32768);
        x.table(4, 5, 4294967294L);
        x.table(5, 4, 27030);
        x.table(6, 3, 150);
        x.table(7, 2, 7);
        return x;
    }

    /** A net of two inputs: gate 0 tells both, gate 1 that they are unlike. */
    static void netOfUnlike(WeighGates x) {
        x.net(2);
        x.put(0, 1);
        x.put(1, 1);
        x.add(2);
        x.put(0, 1);
        x.put(1, 1);
        x.put(2, -2);
        x.add(1);
    }

    /** That net, and weights that are put for its next gate. */
    static WeighGates busy() {
        WeighGates x = withTables();
        netOfUnlike(x);
        x.put(0, 3);
        x.put(1, -4);
        x.put(2, 5);
        x.put(3, -6);
        return x;
    }

    /** A net of four inputs with eight gates, each behind the one ahead; and what is put. */
    static WeighGates full() {
        WeighGates x = withTables();
        x.net(4);
        x.put(0, 1);
        x.add(1);
        for (int gate = 1; gate < 8; gate++) {
            x.put(gate % 4, 2);
            x.put(3 + gate, 1);
            x.add(1 + gate % 2);
        }
        for (int from = 0; from < 12; from++) {
            x.put(from, from - 4);
        }
        return x;
    }

    /** A net of two inputs without gates; and what is put. */
    static WeighGates withoutGates() {
        WeighGates x = withTables();
        x.net(2);
        x.put(0, 7);
        x.put(1, -8);
        return x;
    }
}
