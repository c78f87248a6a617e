/** Boundary cases of promises 11 to 16 (gates), with the document's sentences. */
public final class GatesEdgesTest {

    private static final int UNKNOWN = Edges.UNKNOWN, OUTSIDE = Edges.OUTSIDE;
    private static final int NONE = Edges.NONE, MIN = Edges.MIN, MAX = Edges.MAX;
    /** A half, shared among as many weights as inputs, in thousandths, and not just at the bound. */
    private static final int[] SLACK_OF_ALL_ALIKE = {0, 499, 249, 166, 124, 99};
    /** Slots of Edges.busy that are no gates, and how many inputs they have. */
    private static final int[][] NO_GATES = {{1, 2}, {6, 3}, {5, 4}};

    private final Edges edges = new Edges();

    public static void main(String[] args) {
        GatesEdgesTest test = new GatesEdgesTest();
        test.slotsRefused();
        test.allZeroAndAllOne();
        test.oneInput();
        test.inputsThatDoNotMatter();
        test.greatestLeastWeighing();
        test.boundOfWeightsBelowZero();
        test.noGate();
        test.weightRefused();
        test.witnessOfGates();
        test.witnessRefused();
        test.firstWitness();
        test.slackNotJustAtTheBound();
        test.edges.finish();
    }

    private void due(String call, long got, long want) {
        edges.due(call, got, want);
    }

    /** 11 to 16 "UNKNOWN", which is told ahead of OUTSIDE. */
    private void slotsRefused() {
        for (int slot : Edges.NO_SLOTS) {
            edges.refusedAlways("gate(" + slot + ")", UNKNOWN, x -> x.gate(slot));
            edges.refusedAlways("weight(" + slot + ", 0)", UNKNOWN, x -> x.weight(slot, 0));
            edges.refusedAlways("bound(" + slot + ")", UNKNOWN, x -> x.bound(slot));
            edges.refusedAlways("size(" + slot + ")", UNKNOWN, x -> x.size(slot));
            edges.refusedAlways("witness(" + slot + ", 0)", UNKNOWN, x -> x.witness(slot, 0));
            edges.refusedAlways("witness(" + slot + ", 4)", UNKNOWN, x -> x.witness(slot, 4));
            edges.refusedAlways("witness(" + slot + ", -1)", UNKNOWN, x -> x.witness(slot, -1));
            edges.refusedAlways("slack(" + slot + ")", UNKNOWN, x -> x.slack(slot));
        }
    }

    private void weighing(WeighGates x, int slot, int bound, int... weights) {
        int size = 0;
        due("gate(" + slot + ")", x.gate(slot), 1);
        for (int input = 0; input < weights.length; input++) {
            due("weight(" + slot + ", " + input + ")", x.weight(slot, input), weights[input]);
            size += Math.abs(weights[input]);
        }
        due("bound(" + slot + ")", x.bound(slot), bound);
        due("size(" + slot + ")", x.size(slot), size);
    }

    /** "one more than the greatest sum of a ROW that is 0; if no ROW is 0, the least sum of all ROWS". */
    private void allZeroAndAllOne() {
        for (int slot : new int[] {0, 7}) {
            for (int n = 1; n <= 5; n++) {
                WeighGates x = new WeighGates();
                x.table(slot, n, 0);
                weighing(x, slot, 1, new int[n]);
                due("slack(" + slot + ") of all 0", x.slack(slot), SLACK_OF_ALL_ALIKE[n]);
                x.table(slot, n, Edges.greatest(n));
                weighing(x, slot, 0, new int[n]);
                due("slack(" + slot + ") of all 1", x.slack(slot), SLACK_OF_ALL_ALIKE[n]);
            }
        }
        WeighGates fresh = new WeighGates();
        weighing(fresh, 0, 1, 0);
        weighing(fresh, 7, 1, 0);
    }

    private void oneInput() {
        WeighGates x = new WeighGates();
        x.table(0, 1, 2);
        weighing(x, 0, 1, 1);
        due("slack(0)", x.slack(0), 499);
        x.table(0, 1, 1);
        weighing(x, 0, 0, -1);
        due("slack(0)", x.slack(0), 499);
    }

    /** The least sum of sizes leaves an input that does not matter the weight 0. */
    private void inputsThatDoNotMatter() {
        for (int n = 2; n <= 5; n++) {
            for (int input = 0; input < n; input++) {
                WeighGates x = new WeighGates();
                int[] weights = new int[n];
                x.table(3, n, Edges.tableOfInput(n, input));
                weights[input] = 1;
                weighing(x, 3, 1, weights);
                x.turn(3, 3, NONE);
                weights[input] = -1;
                weighing(x, 3, 0, weights);
            }
        }
    }

    /** The greatest size that a gate of five inputs needs, at both ends of the order of inputs. */
    private void greatestLeastWeighing() {
        WeighGates x = new WeighGates();
        for (int bound = 8; bound <= 9; bound++) {
            x.weigh(0, 5, 5554535252L, bound);
            weighing(x, 0, bound, 2, 2, 3, 4, 5);
            x.weigh(0, 5, 5252535455L, bound);
            weighing(x, 0, bound, 5, 4, 3, 2, 2);
            x.weigh(0, 5, 4546474848L, bound - 16);
            weighing(x, 0, bound - 16, -2, -2, -3, -4, -5);
        }
    }

    /** The least bound may be below 0, and be a number that elsewhere is a refusal. */
    private void boundOfWeightsBelowZero() {
        WeighGates x = new WeighGates();
        for (int bound = -4; bound <= 0; bound++) {
            x.weigh(0, 5, 4949494949L, bound);
            weighing(x, 0, bound, -1, -1, -1, -1, -1);
        }
        x.weigh(0, 5, 4949494949L, -5);
        weighing(x, 0, 0, 0, 0, 0, 0, 0);
        x.weigh(0, 5, 4949494949L, 1);
        weighing(x, 0, 1, 0, 0, 0, 0, 0);
    }

    /** 11 to 14, 16 "NONE: it is no GATE". */
    private void noGate() {
        for (int[] slotAndInputs : NO_GATES) {
            int slot = slotAndInputs[0];
            edges.changesNothing("gate(" + slot + ")", Edges::busy, 0, x -> x.gate(slot));
            edges.changesNothing("bound(" + slot + ")", Edges::busy, NONE, x -> x.bound(slot));
            edges.changesNothing("size(" + slot + ")", Edges::busy, NONE, x -> x.size(slot));
            edges.changesNothing("slack(" + slot + ")", Edges::busy, NONE, x -> x.slack(slot));
            for (int i = 0; i < slotAndInputs[1]; i++) {
                int input = i;
                edges.changesNothing("weight(" + slot + ", " + input + ")", Edges::busy, NONE,
                        x -> x.weight(slot, input));
            }
        }
        WeighGates x = new WeighGates();
        x.table(7, 5, 2523490710L);
        due("gate(7) of five inputs", x.gate(7), 0);
        due("weight(7, 4)", x.weight(7, 4), NONE);
        due("bound(7)", x.bound(7), NONE);
        due("size(7)", x.size(7), NONE);
        due("slack(7)", x.slack(7), NONE);
    }

    /** 12 "UNKNOWN": an input there is not, of a gate and of a table that is none. */
    private void weightRefused() {
        for (int input : new int[] {-1, 5, NONE, MIN, MAX}) {
            edges.refusedAlways("weight(4, " + input + ")", UNKNOWN, x -> x.weight(4, input));
            edges.refusedAlways("weight(5, " + input + ")", UNKNOWN, x -> x.weight(5, input));
        }
        edges.refusedAlways("weight(0, 1)", UNKNOWN, x -> x.weight(0, 1));
        edges.changesNothing("weight(3, 4)", Edges::busy, UNKNOWN, x -> x.weight(3, 4));
        edges.changesNothing("weight(4, 4)", Edges::busy, 1, x -> x.weight(4, 4));
        for (int[] slotAndInputs : NO_GATES) {
            edges.changesNothing("weight of no gate", Edges::busy, UNKNOWN,
                    x -> x.weight(slotAndInputs[0], slotAndInputs[1]));
        }
    }

    /** 15 "NONE: it is a GATE". */
    private void witnessOfGates() {
        for (int i = 0; i <= 3; i++) {
            int row = i;
            for (int slot : new int[] {0, 2, 3, 4, 7}) {
                edges.changesNothing("witness(" + slot + ", " + row + ")", Edges::busy, NONE,
                        x -> x.witness(slot, row));
            }
            // What an earlier call found of another slot is no witness of this one.
            edges.changesNothing("witness behind another's", Edges::busy, NONE, x -> {
                x.witness(1, row);
                return x.witness(2, row);
            });
        }
    }

    /** 15 "i 0 .. 3", "UNKNOWN; OUTSIDE.": of a gate too. */
    private void witnessRefused() {
        for (int i : new int[] {-1, 4, NONE, MIN, MAX}) {
            edges.refusedAlways("witness(0, " + i + ")", OUTSIDE, x -> x.witness(0, i));
            edges.refusedAlways("witness(1, " + i + ")", OUTSIDE, x -> x.witness(1, i));
            edges.refusedAlways("witness(7, " + i + ")", OUTSIDE, x -> x.witness(7, i));
        }
    }

    private void witness(int n, long bits, int... rows) {
        WeighGates x = new WeighGates();
        x.table(7, n, bits);
        for (int i = 0; i <= 3; i++) {
            due("witness(7, " + i + ") of " + n + " inputs, bits " + bits, x.witness(7, i), rows[i]);
        }
    }

    /** "(a at most b, c at most d)", "the first: the least a, then b, then c". */
    private void firstWitness() {
        witness(2, 6, 1, 2, 0, 3);
        witness(2, 9, 0, 3, 1, 2);
        // Rows 0 and 7 alone are 1: three pairs of zeros, and that with row 1 is the first.
        witness(3, 129, 0, 7, 1, 6);
        // Row 1 is 1 too, and can be no c; rows 1 and 2 can be none.
        witness(3, 131, 0, 7, 2, 5);
        witness(3, 135, 0, 7, 3, 4);
        // Row 0 goes with row 3 as well as with row 7: the lesser b.
        witness(3, 137, 0, 3, 1, 2);
        // Rows 1 and 2 prove it, and so do rows 4 and 7: the lesser a.
        witness(3, 150, 1, 2, 0, 3);
        // Of five inputs, at the end of all rows: the last two that can be a and b.
        witness(5, 1L << 29 | 1L << 30, 29, 30, 28, 31);
        witness(5, 1L << 28 | 1L << 31, 28, 31, 29, 30);
        witness(5, 1L | 1L << 31, 0, 31, 1, 30);
        witness(5, 1L << 15 | 1L << 16, 15, 16, 0, 31);
    }

    /** 16 "(nothing is just at the BOUND)": where the room is shared without a rest, one less. */
    private void slackNotJustAtTheBound() {
        WeighGates x = new WeighGates();
        x.table(0, 2, 8);
        due("slack of both of two", x.slack(0), 249);
        x.table(0, 2, 14);
        due("slack of one of two", x.slack(0), 499);
        x.table(0, 4, 32768);
        due("slack of all of four", x.slack(0), 124);
        x.table(0, 5, 1L << 31);
        due("slack of all of five", x.slack(0), 99);
        x.table(0, 5, 1);
        due("slack of none of five", x.slack(0), 499);
        edges.changesNothing("slack(2)", Edges::busy, 249, y -> y.slack(2));
    }
}
