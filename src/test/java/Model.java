import java.util.ArrayList;
import java.util.Arrays;
import java.util.List;

/** The document's calls over the oracle, in the plainest form. */
final class Model {

    static final long UNKNOWN = -1, OUTSIDE = -2, STATE = -3, FULL = -4, NONE = -1000000;

    private final int[] n = {1, 1, 1, 1, 1, 1, 1, 1};
    private final long[] bits = new long[8];
    private int netInputs = 1;
    /** Of each gate its weights by where they come from, and behind them the bound. */
    private final List<int[]> netGates = new ArrayList<>();
    private int[] next = new int[13];

    private static boolean slot(long slot) {
        return slot >= 0 && slot < 8;
    }

    private boolean input(int slot, int input) {
        return slot(slot) && input >= 0 && input < n[slot];
    }

    private boolean netGate(int gate) {
        return gate >= 0 && gate < netGates.size();
    }

    private int set(int slot, int inputs, long to) {
        n[slot] = inputs;
        bits[slot] = to;
        return Oracle.onesOf(inputs, to);
    }

    long table(int slot, int inputs, long to) {
        if (!slot(slot)) return UNKNOWN;
        if (inputs < 1 || inputs > 5 || to < 0 || to > Oracle.all(inputs)) return OUTSIDE;
        return set(slot, inputs, to);
    }

    long weigh(int to, int inputs, long weights, int bound) {
        if (!slot(to)) return UNKNOWN;
        if (inputs < 1 || inputs > 5 || weights < 0 || weights > 9999999999L) return OUTSIDE;
        if (Math.abs((long) bound) > 999) return OUTSIDE;
        String digits = String.format("%010d", weights);
        int[] list = new int[5];
        for (int i = 0; i < 5; i++) {
            list[i] = Integer.parseInt(digits.substring(8 - 2 * i, 10 - 2 * i)) - 50;
        }
        set(to, inputs, Oracle.weighed(inputs, list, bound));
        return bits[to];
    }

    long bits(int slot) {
        return slot(slot) ? bits[slot] : UNKNOWN;
    }

    long inputs(int slot) {
        return slot(slot) ? n[slot] : UNKNOWN;
    }

    long most(int to, int a, int b, int c) {
        if (!slot(to) || !slot(a) || !slot(b) || !slot(c)) return UNKNOWN;
        if (n[a] != n[b] || n[b] != n[c]) return STATE;
        long told = 0;
        for (int row = 0; row < Oracle.rows(n[a]); row++) {
            int votes = 0;
            for (int voter : new int[] {a, b, c}) votes += Oracle.one(bits[voter], row) ? 1 : 0;
            if (votes >= 2) told += 1L << row;
        }
        return set(to, n[a], told);
    }

    long turn(int to, int a, int input) {
        if (!slot(to) || !slot(a) || input != NONE && !input(a, input)) return UNKNOWN;
        long told = 0;
        for (int row = 0; row < Oracle.rows(n[a]); row++) {
            boolean is = input == NONE ? !Oracle.one(bits[a], row) : Oracle.one(bits[a], row ^ 1 << input);
            if (is) told += 1L << row;
        }
        return set(to, n[a], told);
    }

    long hold(int to, int a, int input, boolean is) {
        if (!slot(to) || !slot(a) || !input(a, input)) return UNKNOWN;
        if (n[a] == 1) return STATE;
        long told = 0;
        int at = 0;
        for (int row = 0; row < Oracle.rows(n[a]); row++) {
            if ((row >> input) % 2 == (is ? 1 : 0)) {
                if (Oracle.one(bits[a], row)) told += 1L << at;
                at++;
            }
        }
        set(to, n[a] - 1, told);
        return n[to];
    }

    long matters(int slot, int input) {
        if (!input(slot, input)) return UNKNOWN;
        for (int row = 0; row < Oracle.rows(n[slot]); row++) {
            if (Oracle.one(bits[slot], row) != Oracle.one(bits[slot], row ^ 1 << input)) return 1;
        }
        return 0;
    }

    long ones(int slot, int input) {
        if (!slot(slot) || input != NONE && !input(slot, input)) return UNKNOWN;
        int ones = 0;
        for (int row = 0; row < Oracle.rows(n[slot]); row++) {
            if (Oracle.one(bits[slot], row) && (input == NONE || (row >> input) % 2 == 1)) ones++;
        }
        return ones;
    }

    long gate(int slot) {
        if (!slot(slot)) return UNKNOWN;
        return Oracle.isGate(n[slot], bits[slot]) ? 1 : 0;
    }

    long weight(int slot, int input) {
        return input(slot, input) ? Oracle.weight(n[slot], bits[slot], input) : UNKNOWN;
    }

    long bound(int slot) {
        return slot(slot) ? Oracle.bound(n[slot], bits[slot]) : UNKNOWN;
    }

    long size(int slot) {
        return slot(slot) ? Oracle.size(n[slot], bits[slot]) : UNKNOWN;
    }

    long witness(int slot, int i) {
        if (!slot(slot)) return UNKNOWN;
        if (i < 0 || i > 3) return OUTSIDE;
        return Oracle.isGate(n[slot], bits[slot]) ? NONE : Oracle.witness(n[slot], bits[slot])[i];
    }

    long slack(int slot) {
        return slot(slot) ? Oracle.slack(n[slot], bits[slot]) : UNKNOWN;
    }

    long chief(int slot) {
        if (!slot(slot)) return UNKNOWN;
        return n[slot] > 4 ? STATE : Oracle.chiefs(n[slot])[(int) bits[slot]];
    }

    long kin(int slot) {
        if (!slot(slot)) return UNKNOWN;
        return n[slot] > 4 ? STATE : Oracle.kin(n[slot], bits[slot]);
    }

    long gates(int inputs) {
        return inputs < 1 || inputs > 4 ? OUTSIDE : Oracle.leastWeighings(inputs).size();
    }

    long kinds(int inputs, boolean all) {
        return inputs < 1 || inputs > 3 ? OUTSIDE : Oracle.kinds(inputs, all);
    }

    long fewest(int slot) {
        if (!slot(slot)) return UNKNOWN;
        if (n[slot] > 3) return STATE;
        return Oracle.isGate(n[slot], bits[slot]) ? 1 : 2;
    }

    long first(int slot) {
        if (!slot(slot)) return UNKNOWN;
        return n[slot] > 3 ? STATE : Oracle.first(n[slot], bits[slot]);
    }

    long net(int inputs) {
        if (inputs < 1 || inputs > 4) return OUTSIDE;
        int had = netGates.size();
        netInputs = inputs;
        netGates.clear();
        next = new int[13];
        return had;
    }

    long put(int from, int w) {
        if (from < 0 || from >= netInputs + netGates.size()) return UNKNOWN;
        if (w < -9 || w > 9) return OUTSIDE;
        int was = next[from];
        next[from] = w;
        return was;
    }

    long add(int bound) {
        if (bound < -99 || bound > 99) return OUTSIDE;
        if (netGates.size() == 8) return FULL;
        int[] gate = Arrays.copyOf(next, 13);
        gate[12] = bound;
        netGates.add(gate);
        next = new int[13];
        return netGates.size() - 1;
    }

    /** What a gate tells for a row, if the fixed gate always tells what is said. */
    private boolean tells(int gate, int row, int fixed, boolean is) {
        if (gate == fixed) return is;
        int[] weights = netGates.get(gate);
        int sum = 0;
        for (int from = 0; from < netInputs + gate; from++) {
            if (weights[from] != 0) {
                boolean on = from < netInputs ? (row >> from) % 2 == 1 : tells(from - netInputs, row, fixed, is);
                sum += on ? weights[from] : 0;
            }
        }
        return sum >= weights[12];
    }

    private long toldBy(int gate, int fixed, boolean is) {
        long told = 0;
        for (int row = 0; row < Oracle.rows(netInputs); row++) {
            if (tells(gate, row, fixed, is)) told += 1L << row;
        }
        return told;
    }

    long tell(int to, int gate) {
        if (!slot(to) || !netGate(gate)) return UNKNOWN;
        return set(to, netInputs, toldBy(gate, -1, false));
    }

    long unlike(int slot) {
        if (!slot(slot)) return UNKNOWN;
        if (netGates.isEmpty() || n[slot] != netInputs) return STATE;
        for (int row = 0; row < Oracle.rows(netInputs); row++) {
            if (tells(netGates.size() - 1, row, -1, false) != Oracle.one(bits[slot], row)) return row;
        }
        return NONE;
    }

    long depth(int gate) {
        if (!netGate(gate)) return UNKNOWN;
        long deepest = 0;
        for (int other = 0; other < gate; other++) {
            if (netGates.get(gate)[netInputs + other] != 0) deepest = Math.max(deepest, depth(other));
        }
        return deepest + 1;
    }

    long idle(int gate, boolean is) {
        if (!netGate(gate)) return UNKNOWN;
        int last = netGates.size() - 1;
        return toldBy(last, gate, is) == toldBy(last, -1, false) ? 1 : 0;
    }

    long count(int what) {
        return what == 0 ? netInputs : what == 1 ? netGates.size() : OUTSIDE;
    }
}
