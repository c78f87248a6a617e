/** Boundary cases of promises 17 to 22 (kinds), with the document's sentences. */
public final class KindsEdgesTest {

    private static final int UNKNOWN = Edges.UNKNOWN, OUTSIDE = Edges.OUTSIDE, STATE = Edges.STATE;
    private static final int NONE = Edges.NONE, MIN = Edges.MIN, MAX = Edges.MAX;

    private final Edges edges = new Edges();

    public static void main(String[] args) {
        KindsEdgesTest test = new KindsEdgesTest();
        test.slotsRefused();
        test.chiefAndKinTaken();
        test.eachChangeAlone();
        test.chiefAndKinRefused();
        test.gates();
        test.kinds();
        test.fewestAndFirstTaken();
        test.fewestAndFirstRefused();
        test.edges.finish();
    }

    private void due(String call, long got, long want) {
        edges.due(call, got, want);
    }

    /** 17, 18, 21, 22 "UNKNOWN". */
    private void slotsRefused() {
        for (int slot : Edges.NO_SLOTS) {
            edges.refusedAlways("chief(" + slot + ")", UNKNOWN, x -> x.chief(slot));
            edges.refusedAlways("kin(" + slot + ")", UNKNOWN, x -> x.kin(slot));
            edges.refusedAlways("fewest(" + slot + ")", UNKNOWN, x -> x.fewest(slot));
            edges.refusedAlways("first(" + slot + ")", UNKNOWN, x -> x.first(slot));
        }
    }

    private void kind(int n, long bits, long chief, int kin) {
        WeighGates x = new WeighGates();
        for (int slot : new int[] {0, 7}) {
            x.table(slot, n, bits);
            due("chief of " + n + " inputs, bits " + bits, x.chief(slot), chief);
            due("kin of " + n + " inputs, bits " + bits, x.kin(slot), kin);
            due("bits(" + slot + ") after them", x.bits(slot), bits);
            due("inputs(" + slot + ") after them", x.inputs(slot), n);
        }
    }

    /** "The CHIEF of a KIND is that with the least BITS": the least kinds, and those of one row. */
    private void chiefAndKinTaken() {
        for (int n = 1; n <= 4; n++) {
            kind(n, 0, 0, 2);
            kind(n, Edges.greatest(n), 0, 2);
            int ofOneRow = n == 1 ? 2 : 2 << n;
            for (int row = 0; row < 1 << n; row++) {
                kind(n, 1L << row, 1, ofOneRow);
                kind(n, Edges.greatest(n) - (1L << row), 1, ofOneRow);
            }
        }
        kind(4, 27030, 27030, 2);
        kind(4, 38505, 27030, 2);
    }

    /** "INPUTS that change places, INPUTS that are turned (0 for 1), all that is told turned". */
    private void eachChangeAlone() {
        for (int n = 1; n <= 4; n++) {
            for (int input = 0; input < n; input++) {
                long bits = Edges.tableOfInput(n, input);
                long chief = Edges.tableOfInput(n, n - 1) >> (1 << n - 1);
                kind(n, bits, chief, 2 * n);
                kind(n, Edges.greatest(n) - bits, chief, 2 * n);
            }
        }
        // Input 0 and not input 1; input 1 and not input 0; neither; not both.
        for (long bits : new long[] {2, 4, 1, 7}) {
            kind(2, bits, 1, 8);
        }
    }

    /** 17, 18 "STATE: it has more than 4 INPUTS." */
    private void chiefAndKinRefused() {
        edges.changesNothing("chief(4) of five inputs", Edges::busy, STATE, x -> x.chief(4));
        edges.changesNothing("kin(4) of five inputs", Edges::busy, STATE, x -> x.kin(4));
        edges.changesNothing("chief(3) of four inputs", Edges::busy, 1, x -> x.chief(3));
        edges.changesNothing("kin(3) of four inputs", Edges::busy, 32, x -> x.kin(3));
        WeighGates x = new WeighGates();
        x.table(0, 5, 0);
        due("chief(0) of five inputs, all 0", x.chief(0), STATE);
        due("kin(0) of five inputs, all 0", x.kin(0), STATE);
    }

    /** 19 "of n INPUTS (1 to 4)", "OUTSIDE". */
    private void gates() {
        int[] due = {0, 4, 14, 104, 1882};
        for (int n = 1; n <= 4; n++) {
            int inputs = n;
            edges.changesNothing("gates(" + n + ")", Edges::busy, due[n], x -> x.gates(inputs));
        }
        for (int n : new int[] {0, 5, -1, NONE, MIN, MAX}) {
            edges.refusedAlways("gates(" + n + ")", OUTSIDE, x -> x.gates(n));
        }
    }

    /** 20 "KINDS of TABLES (all = true), of GATES, of n INPUTS (1 to 3)", "OUTSIDE". */
    private void kinds() {
        int[] ofTables = {0, 2, 4, 14};
        int[] ofGates = {0, 2, 3, 6};
        for (int n = 1; n <= 3; n++) {
            int inputs = n;
            edges.changesNothing("kinds(" + n + ", true)", Edges::busy, ofTables[n], x -> x.kinds(inputs, true));
            edges.changesNothing("kinds(" + n + ", false)", Edges::busy, ofGates[n], x -> x.kinds(inputs, false));
        }
        for (int n : new int[] {0, 4, -1, NONE, MIN, MAX}) {
            edges.refusedAlways("kinds(" + n + ", true)", OUTSIDE, x -> x.kinds(n, true));
            edges.refusedAlways("kinds(" + n + ", false)", OUTSIDE, x -> x.kinds(n, false));
        }
    }

    private void net(int n, long bits, int fewest, int first) {
        WeighGates x = new WeighGates();
        for (int slot : new int[] {0, 7}) {
            x.table(slot, n, bits);
            due("fewest of " + n + " inputs, bits " + bits, x.fewest(slot), fewest);
            due("first of " + n + " inputs, bits " + bits, x.first(slot), first);
            due("bits(" + slot + ") after them", x.bits(slot), bits);
            due("inputs(" + slot + ") after them", x.inputs(slot), n);
        }
    }

    /** 21, 22 "NONE: it is a GATE": all tables of one input are, and those that are all alike. */
    private void fewestAndFirstTaken() {
        for (long bits = 0; bits <= 3; bits++) {
            net(1, bits, 1, NONE);
        }
        for (int n = 2; n <= 3; n++) {
            net(n, 0, 1, NONE);
            net(n, Edges.greatest(n), 1, NONE);
        }
        // A first gate that tells row 0 alone is the least that is not all 0.
        net(2, 6, 2, 1);
        net(2, 9, 2, 1);
        net(3, 150, 2, 23);
        net(3, 105, 2, 23);
        net(3, 129, 2, 1);
    }

    /** 21, 22 "STATE: it has more than 3 INPUTS", a gate (slots 3, 4) or none (slot 5). */
    private void fewestAndFirstRefused() {
        for (int slot : new int[] {3, 4, 5}) {
            edges.changesNothing("fewest(" + slot + ")", Edges::busy, STATE, x -> x.fewest(slot));
            edges.changesNothing("first(" + slot + ")", Edges::busy, STATE, x -> x.first(slot));
        }
        edges.changesNothing("fewest(6) of three inputs", Edges::busy, 2, x -> x.fewest(6));
        edges.changesNothing("first(6) of three inputs", Edges::busy, 23, x -> x.first(6));
        edges.changesNothing("fewest(2) of three inputs", Edges::busy, 1, x -> x.fewest(2));
        edges.changesNothing("first(2) of three inputs", Edges::busy, NONE, x -> x.first(2));
    }
}
