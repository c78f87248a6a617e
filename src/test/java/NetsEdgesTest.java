/** Boundary cases of promises 23 to 30 (nets), with the document's sentences. */
public final class NetsEdgesTest {

    private static final int UNKNOWN = Edges.UNKNOWN, OUTSIDE = Edges.OUTSIDE, STATE = Edges.STATE;
    private static final int FULL = Edges.FULL, NONE = Edges.NONE, MIN = Edges.MIN, MAX = Edges.MAX;

    private final Edges edges = new Edges();

    public static void main(String[] args) {
        NetsEdgesTest test = new NetsEdgesTest();
        test.netTaken();
        test.netRefused();
        test.putTaken();
        test.putRefused();
        test.putBehindAGate();
        test.putOfAFullNet();
        test.addTaken();
        test.addAtTheBound();
        test.addRefused();
        test.tellTaken();
        test.tellRefused();
        test.unlikeTaken();
        test.unlikeRefused();
        test.depthTaken();
        test.depthRefused();
        test.idleTaken();
        test.idleRefused();
        test.count();
        test.lastOfAllCalls();
        test.edges.finish();
    }

    private void due(String call, long got, long want) {
        edges.due(call, got, want);
    }

    private static WeighGates netOf(int n, int gates) {
        WeighGates x = new WeighGates();
        x.net(n);
        for (int gate = 0; gate < gates; gate++) {
            x.add(1);
        }
        return x;
    }

    private void tells(WeighGates x, int gate, int n, long bits) {
        due("tell(7, " + gate + ")", x.tell(7, gate), Long.bitCount(bits));
        due("bits(7)", x.bits(7), bits);
        due("inputs(7)", x.inputs(7), n);
    }

    /** 23 "The NET has n INPUTS (1 to 4), no GATES, nothing is put: how many GATES it had." */
    private void netTaken() {
        for (int n = 1; n <= 4; n++) {
            for (int had = 0; had <= 8; had++) {
                WeighGates x = netOf(2, had);
                for (int from = 0; from < 2 + had; from++) {
                    x.put(from, 5);
                }
                due("net(" + n + ")", x.net(n), had);
                due("count(0)", x.count(0), n);
                due("count(1)", x.count(1), 0);
                due("depth(0)", x.depth(0), UNKNOWN);
                for (int from = 0; from < n; from++) {
                    due("put(" + from + ", 0) of a new net", x.put(from, 0), 0);
                }
                due("put(" + n + ", 0) of a new net", x.put(n, 0), UNKNOWN);
                due("net(" + n + ") at once", x.net(n), 0);
            }
        }
        WeighGates x = Edges.full();
        x.net(3);
        due("a slot after net(3)", x.bits(4), 4294967294L);
        due("a slot after net(3)", x.inputs(4), 5);
    }

    /** 23 "OUTSIDE". */
    private void netRefused() {
        for (int n : new int[] {0, 5, -1, NONE, MIN, MAX}) {
            edges.refusedAlways("net(" + n + ")", OUTSIDE, x -> x.net(n));
        }
    }

    /** 24 "of an INPUT (0 .. n - 1), of GATE g (n and g): what it was", "weights -9 .. 9". */
    private void putTaken() {
        for (int n = 1; n <= 4; n++) {
            for (int gates = 0; gates <= 8; gates += 4) {
                WeighGates x = netOf(n, gates);
                for (int from = 0; from < n + gates; from++) {
                    due("put(" + from + ", -9)", x.put(from, -9), 0);
                    due("put(" + from + ", 9)", x.put(from, 9), -9);
                    due("put(" + from + ", -1)", x.put(from, -1), 9);
                    due("put(" + from + ", 0)", x.put(from, 0), -1);
                    due("put(" + from + ", " + (from - 5) + ")", x.put(from, from - 5), 0);
                }
                due("put(" + (n + gates) + ", 0)", x.put(n + gates, 0), UNKNOWN);
                for (int from = 0; from < n + gates; from++) {
                    due("put(" + from + ", 0)", x.put(from, 0), from - 5);
                }
            }
        }
    }

    /** 24 "UNKNOWN; OUTSIDE: w." */
    private void putRefused() {
        for (int from : new int[] {-1, 12, NONE, MIN, MAX}) {
            edges.refusedAlways("put(" + from + ", 1)", UNKNOWN, x -> x.put(from, 1));
            edges.refusedAlways("put(" + from + ", 10)", UNKNOWN, x -> x.put(from, 10));
        }
        for (int w : new int[] {1, 10, -10}) {
            edges.changesNothing("put(1, " + w + ") of a new object", WeighGates::new, UNKNOWN, x -> x.put(1, w));
            edges.changesNothing("put(2, " + w + ")", Edges::withoutGates, UNKNOWN, x -> x.put(2, w));
            edges.changesNothing("put(4, " + w + ")", Edges::busy, UNKNOWN, x -> x.put(4, w));
        }
        for (int w : new int[] {-10, 10, NONE, MIN, MAX}) {
            edges.refusedAlways("put(0, " + w + ")", OUTSIDE, x -> x.put(0, w));
            edges.changesNothing("put(1, " + w + ")", Edges::withoutGates, OUTSIDE, x -> x.put(1, w));
            edges.changesNothing("put(3, " + w + ")", Edges::busy, OUTSIDE, x -> x.put(3, w));
            edges.changesNothing("put(11, " + w + ")", Edges::full, OUTSIDE, x -> x.put(11, w));
        }
    }

    /** 24 "(0; all are 0 again behind a GATE)". */
    private void putBehindAGate() {
        for (int n = 1; n <= 4; n++) {
            WeighGates x = netOf(n, 0);
            for (int gate = 0; gate < 8; gate++) {
                for (int from = 0; from < n + gate; from++) {
                    due("put(" + from + ", 3)", x.put(from, 3), 0);
                }
                due("add(1)", x.add(1), gate);
                for (int from = 0; from <= n + gate; from++) {
                    due("put(" + from + ", 0) behind a gate", x.put(from, 0), 0);
                }
            }
        }
        WeighGates x = netOf(1, 0);
        x.put(0, 1);
        x.add(1);
        x.add(1);
        tells(x, 0, 1, 2);
        tells(x, 1, 1, 0);
    }

    /** No promise refuses a weight that is put where no gate can come any more. */
    private void putOfAFullNet() {
        WeighGates x = Edges.full();
        due("put(11, 2) of a full net", x.put(11, 2), 7);
        due("put(0, 1) of a full net", x.put(0, 1), -4);
        due("put(12, 2) of a full net", x.put(12, 2), UNKNOWN);
        due("add(1) of a full net", x.add(1), FULL);
        due("put(11, 3) behind what was refused", x.put(11, 3), 2);
        due("put(0, 3) behind what was refused", x.put(0, 3), 1);
        WeighGates alike = Edges.full();
        for (int gate = 0; gate < 8; gate++) {
            alike.tell(6, gate);
            tells(x, gate, 4, alike.bits(6));
            due("depth(" + gate + ")", x.depth(gate), gate + 1);
        }
    }

    /** 25 "its number", "a BOUND -99 .. 99", "GATES 0, 1, .. (8 at most)". */
    private void addTaken() {
        WeighGates x = netOf(1, 0);
        for (int gate = 0; gate < 8; gate++) {
            boolean even = gate % 2 == 0;
            due("add", x.add(even ? -99 : 99), gate);
            due("count(1)", x.count(1), gate + 1);
            tells(x, gate, 1, even ? 3 : 0);
        }
        due("add(0), the ninth", x.add(0), FULL);
        due("net(1)", x.net(1), 8);
        due("add(0) of a new net", x.add(0), 0);
    }

    /** "t at least", at the farthest sums: 4 inputs and 7 gates with weights 9, or -9, and bounds by them. */
    private void addAtTheBound() {
        int[][] weightsAndBounds = {{9, 99}, {9, 98}, {-9, -99}, {-9, -98}};
        long[] told = {32768, 32768, 65535, 32767};
        for (int which = 0; which < 4; which++) {
            WeighGates x = netOf(4, 0);
            for (int gate = 0; gate < 7; gate++) {
                x.add(0);
            }
            for (int from = 0; from < 11; from++) {
                x.put(from, weightsAndBounds[which][0]);
            }
            x.add(weightsAndBounds[which][1]);
            tells(x, 7, 4, told[which]);
        }
        WeighGates x = netOf(1, 0);
        x.put(0, -1);
        x.add(-1);
        x.put(0, -1);
        x.add(0);
        x.put(0, 1);
        x.add(1);
        x.put(0, 1);
        x.add(2);
        tells(x, 0, 1, 3);
        tells(x, 1, 1, 1);
        tells(x, 2, 1, 2);
        tells(x, 3, 1, 0);
    }

    /** 25 "OUTSIDE; FULL: 8." */
    private void addRefused() {
        for (int bound : new int[] {-100, 100, NONE, MIN, MAX}) {
            edges.refusedAlways("add(" + bound + ")", OUTSIDE, x -> x.add(bound));
        }
        for (int bound : new int[] {-99, 0, 99}) {
            edges.changesNothing("add(" + bound + ") of a full net", Edges::full, FULL, x -> x.add(bound));
        }
        due("add(0), the eighth", netOf(4, 7).add(0), 7);
    }

    /** 26 "SLOT to gets the TABLE of a GATE of the NET", whatever it had. */
    private void tellTaken() {
        for (int slot : new int[] {0, 7}) {
            for (int n = 1; n <= 4; n++) {
                WeighGates x = netOf(n, 0);
                x.table(slot, 5, 9);
                x.put(n - 1, 1);
                x.add(1);
                x.add(0);
                due("tell(" + slot + ", 0)", x.tell(slot, 0), 1 << n - 1);
                due("bits(" + slot + ")", x.bits(slot), Edges.tableOfInput(n, n - 1));
                due("inputs(" + slot + ")", x.inputs(slot), n);
                due("tell(" + slot + ", 1)", x.tell(slot, 1), 1 << n);
                due("bits(" + slot + ")", x.bits(slot), Edges.greatest(n));
            }
        }
        due("tell(0, 7), the last that can be", Edges.full().tell(0, 7), Edges.full().tell(7, 7));
    }

    /** 26 "UNKNOWN": a slot, a gate. */
    private void tellRefused() {
        for (int slot : Edges.NO_SLOTS) {
            edges.refusedAlways("tell(" + slot + ", 0)", UNKNOWN, x -> x.tell(slot, 0));
        }
        for (int gate : new int[] {-1, 8, NONE, MIN, MAX}) {
            edges.refusedAlways("tell(4, " + gate + ")", UNKNOWN, x -> x.tell(4, gate));
        }
        edges.changesNothing("tell(4, 0) without gates", Edges::withoutGates, UNKNOWN, x -> x.tell(4, 0));
        edges.changesNothing("tell(4, 2) of two gates", Edges::busy, UNKNOWN, x -> x.tell(4, 2));
        edges.changesNothing("tell(4, 0) behind net(2)", Edges::withoutGates, UNKNOWN, x -> {
            x.net(2);
            x.add(1);
            x.net(2);
            x.put(0, 7);
            x.put(1, -8);
            return x.tell(4, 0);
        });
    }

    /** 27 "The first ROW for which the NET (its last GATE) and a SLOT tell not alike; NONE: there is none." */
    private void unlikeTaken() {
        for (int slot : new int[] {0, 7}) {
            for (int n = 1; n <= 4; n++) {
                WeighGates x = netOf(n, 2);
                for (int row = 0; row < 1 << n; row++) {
                    x.table(slot, n, 1L << row);
                    due("unlike, row " + row + " alone", x.unlike(slot), row);
                    x.table(slot, n, Edges.greatest(n) + 1 - (1L << row));
                    due("unlike, from row " + row + " on", x.unlike(slot), row);
                }
                x.table(slot, n, 0);
                due("unlike, alike", x.unlike(slot), NONE);
            }
        }
        WeighGates x = netOf(1, 0);
        x.add(0);
        due("unlike(0) of the only gate", x.unlike(0), 0);
        x.table(0, 1, 2);
        due("unlike(0) of the only gate", x.unlike(0), 0);
        x.table(0, 1, 1);
        due("unlike(0) of the only gate", x.unlike(0), 1);
        x.table(0, 1, 3);
        due("unlike(0) of the only gate", x.unlike(0), NONE);
        edges.changesNothing("the last gate, not the one ahead", Edges::busy, NONE, y -> y.unlike(1));
        edges.changesNothing("unlike(7)", Edges::busy, 0, y -> y.unlike(7));
    }

    /** 27 "UNKNOWN; STATE: there is no GATE, or they have not as many INPUTS." */
    private void unlikeRefused() {
        for (int slot : Edges.NO_SLOTS) {
            edges.refusedAlways("unlike(" + slot + ")", UNKNOWN, x -> x.unlike(slot));
        }
        for (int slot = 0; slot <= 7; slot++) {
            int of = slot;
            edges.changesNothing("unlike(" + slot + ") without gates", Edges::withoutGates, STATE, x -> x.unlike(of));
        }
        edges.changesNothing("unlike(0) of a new object", WeighGates::new, STATE, x -> x.unlike(0));
        edges.changesNothing("unlike(0), one input less", Edges::busy, STATE, x -> x.unlike(0));
        edges.changesNothing("unlike(2), one input more", Edges::busy, STATE, x -> x.unlike(2));
        edges.changesNothing("unlike(6), one input less", Edges::full, STATE, x -> x.unlike(6));
        edges.changesNothing("unlike(4), one input more", Edges::full, STATE, x -> x.unlike(4));
    }

    /** 28 "How many GATES lie one behind the other at most ..., itself counted (by weights that are not 0)". */
    private void depthTaken() {
        WeighGates x = netOf(1, 1);
        due("depth(0), no weights", x.depth(0), 1);
        for (int gate = 1; gate < 8; gate++) {
            x.put(gate, gate % 2 == 0 ? -1 : 9);
            x.add(1);
            due("depth(" + gate + ") of a chain", x.depth(gate), gate + 1);
        }
        x = netOf(4, 0);
        x.put(3, 1);
        x.add(1);
        x.put(3, 1);
        x.put(4, 1);
        x.put(4, 0);
        x.add(1);
        due("depth(1), a weight that is 0 again", x.depth(1), 1);
        x.put(4, -1);
        x.add(1);
        due("depth(2), behind gate 0", x.depth(2), 2);
        x.put(5, 1);
        x.put(6, 1);
        x.add(1);
        due("depth(3), the deeper one is the last", x.depth(3), 3);
        x.put(5, 1);
        x.put(7, -9);
        x.put(4, 1);
        x.add(99);
        due("depth(4), the deepest counts, though it tells always 0", x.depth(4), 4);
        x.put(7, 1);
        x.put(5, 1);
        due("what is put for the next one does not count", x.depth(4), 4);
        due("depth(0) still", x.depth(0), 1);
        edges.changesNothing("depth(7)", Edges::full, 8, y -> y.depth(7));
    }

    /** 28 "UNKNOWN". */
    private void depthRefused() {
        for (int gate : new int[] {-1, 8, NONE, MIN, MAX}) {
            edges.refusedAlways("depth(" + gate + ")", UNKNOWN, x -> x.depth(gate));
        }
        edges.changesNothing("depth(0) without gates", Edges::withoutGates, UNKNOWN, x -> x.depth(0));
        edges.changesNothing("depth(2) of two gates", Edges::busy, UNKNOWN, x -> x.depth(2));
    }

    /** 29 "Whether the NET tells the same, if a GATE of it always tells 0 (is: always 1)". */
    private void idleTaken() {
        for (int n = 1; n <= 4; n++) {
            WeighGates x = netOf(n, 0);
            x.add(99);
            due("the only gate, always 0: idle(0, false)", x.idle(0, false), 1);
            due("the only gate, always 0: idle(0, true)", x.idle(0, true), 0);
            x.add(-99);
            due("the last gate, always 1: idle(1, false)", x.idle(1, false), 0);
            due("the last gate, always 1: idle(1, true)", x.idle(1, true), 1);
            due("a gate that nothing weighs: idle(0, false)", x.idle(0, false), 1);
            due("a gate that nothing weighs: idle(0, true)", x.idle(0, true), 1);
            x.put(n, 1);
            x.put(n + 1, 1);
            x.add(1);
            due("0 or 1: idle(0, true)", x.idle(0, true), 1);
            due("0 or 1: idle(1, false)", x.idle(1, false), 0);
            due("0 or 1: idle(1, true)", x.idle(1, true), 1);
        }
        idleByOneRow();
        edges.changesNothing("idle(0, true)", Edges::busy, 0, x -> x.idle(0, true));
        edges.changesNothing("idle(0, false)", Edges::busy, 0, x -> x.idle(0, false));
        edges.changesNothing("idle(7, false)", Edges::full, 0, x -> x.idle(7, false));
    }

    /** A change in the last row alone counts, and so does one that comes through gates between. */
    private void idleByOneRow() {
        WeighGates x = netOf(4, 0);
        for (int input = 0; input < 4; input++) {
            x.put(input, 1);
        }
        x.add(4);
        for (int gate = 1; gate < 8; gate++) {
            x.put(3 + gate, 1);
            x.add(1);
        }
        for (int gate = 0; gate < 8; gate++) {
            due("only row 15 is told: idle(" + gate + ", false)", x.idle(gate, false), 0);
            due("only row 15 is told: idle(" + gate + ", true)", x.idle(gate, true), 0);
        }
        tells(x, 7, 4, 32768);
    }

    /** 29 "UNKNOWN". */
    private void idleRefused() {
        for (boolean is : new boolean[] {false, true}) {
            for (int gate : new int[] {-1, 8, NONE, MIN, MAX}) {
                edges.refusedAlways("idle(" + gate + ", " + is + ")", UNKNOWN, x -> x.idle(gate, is));
            }
            edges.changesNothing("idle(0) without gates", Edges::withoutGates, UNKNOWN, x -> x.idle(0, is));
            edges.changesNothing("idle(2) of two gates", Edges::busy, UNKNOWN, x -> x.idle(2, is));
        }
    }

    /** 30 "0 INPUTS of the NET, 1 its GATES. OUTSIDE." */
    private void count() {
        for (int n = 1; n <= 4; n++) {
            for (int gates = 0; gates <= 8; gates++) {
                WeighGates x = netOf(n, gates);
                due("count(0)", x.count(0), n);
                due("count(1)", x.count(1), gates);
            }
        }
        for (int what : new int[] {-1, 2, NONE, MIN, MAX}) {
            edges.refusedAlways("count(" + what + ")", OUTSIDE, x -> x.count(what));
        }
        edges.changesNothing("count(0)", Edges::full, 4, x -> x.count(0));
        edges.changesNothing("count(1)", Edges::full, 8, x -> x.count(1));
    }

    /** "An object is used for at most 512 calls": the 512th is answered like the first. */
    private void lastOfAllCalls() {
        WeighGates x = new WeighGates();
        for (int call = 1; call <= 510; call += 2) {
            due("table, call " + call, x.table(call % 8, 5, call), Long.bitCount(call));
            due("bits, call " + (call + 1), x.bits(call % 8), call);
        }
        due("net(4), call 511", x.net(4), 0);
        due("count(0), call 512", x.count(0), 4);
    }
}
