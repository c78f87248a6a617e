/** Boundary cases of promises 1 to 10 (a new object, tables), with the document's sentences. */
public final class TablesEdgesTest {

    private static final int UNKNOWN = Edges.UNKNOWN, OUTSIDE = Edges.OUTSIDE, STATE = Edges.STATE;
    private static final int NONE = Edges.NONE, MIN = Edges.MIN, MAX = Edges.MAX;
    private static final int[] NO_NUMBERS_OF_INPUTS = {0, 6, -1, 32, 33, NONE, MIN, MAX};
    private static final long WEIGHTS_0 = 5050505050L;
    private static final long WEIGHTS_49 = 9999999999L;

    private final Edges edges = new Edges();

    public static void main(String[] args) {
        TablesEdgesTest test = new TablesEdgesTest();
        test.newObject();
        test.tableTaken();
        test.tableRefused();
        test.weighTaken();
        test.weighAtTheBound();
        test.weighRefused();
        test.bitsAndInputs();
        test.mostTaken();
        test.mostRefused();
        test.turnTaken();
        test.turnRefused();
        test.holdTaken();
        test.holdRefused();
        test.matters();
        test.ones();
        test.edges.finish();
    }

    private void due(String call, long got, long want) {
        edges.due(call, got, want);
    }

    private void keeps(WeighGates x, int slot, int n, long bits) {
        due("inputs(" + slot + ")", x.inputs(slot), n);
        due("bits(" + slot + ")", x.bits(slot), bits);
    }

    /** 1 "All SLOTS at first; a NET of one INPUT without GATES" and "at first of 1 INPUT, all 0". */
    private void newObject() {
        WeighGates x = new WeighGates();
        for (int slot = 0; slot <= 7; slot++) {
            keeps(x, slot, 1, 0);
        }
        due("new: count(0)", x.count(0), 1);
        due("new: count(1)", x.count(1), 0);
        due("new: put(1, 1)", x.put(1, 1), UNKNOWN);
        due("new: put(0, 1)", x.put(0, 1), 0);
        due("new: depth(0)", x.depth(0), UNKNOWN);
        due("new: net(1)", x.net(1), 0);
        WeighGates other = new WeighGates();
        x.table(0, 5, 9);
        x.put(0, 4);
        x.add(1);
        keeps(other, 0, 1, 0);
        due("another object's count(1)", other.count(1), 0);
        due("another object's put(0, 0)", other.put(0, 0), 0);
    }

    /** "SLOTS 0 .. 7", "n INPUTS (1 to 5 ..)", "BITS (0 to two to the power of two to the n, less 1)". */
    private void tableTaken() {
        for (int slot = 0; slot <= 7; slot++) {
            for (int n = 1; n <= 5; n++) {
                WeighGates x = Edges.busy();
                due("table(" + slot + ", " + n + ", greatest)", x.table(slot, n, Edges.greatest(n)), 1 << n);
                keeps(x, slot, n, Edges.greatest(n));
                due("table(" + slot + ", " + n + ", last row)", x.table(slot, n, 1L << (1 << n) - 1), 1);
                keeps(x, slot, n, 1L << (1 << n) - 1);
                due("table(" + slot + ", " + n + ", 0)", x.table(slot, n, 0), 0);
                keeps(x, slot, n, 0);
            }
        }
    }

    /** 2 "UNKNOWN; OUTSIDE: n, bits." */
    private void tableRefused() {
        for (int slot : Edges.NO_SLOTS) {
            edges.refusedAlways("table(" + slot + ", 1, 1)", UNKNOWN, x -> x.table(slot, 1, 1));
            edges.refusedAlways("table(" + slot + ", 0, 1)", UNKNOWN, x -> x.table(slot, 0, 1));
            edges.refusedAlways("table(" + slot + ", 1, -1)", UNKNOWN, x -> x.table(slot, 1, -1));
        }
        for (int n : NO_NUMBERS_OF_INPUTS) {
            edges.refusedAlways("table(0, " + n + ", 0)", OUTSIDE, x -> x.table(0, n, 0));
            edges.refusedAlways("table(7, " + n + ", 1)", OUTSIDE, x -> x.table(7, n, 1));
        }
        for (int inputs = 1; inputs <= 5; inputs++) {
            int n = inputs;
            for (long bits : new long[] {-1, Long.MIN_VALUE, Edges.greatest(n) + 1, 1L << 32, Long.MAX_VALUE}) {
                edges.refusedAlways("table(3, " + n + ", " + bits + ")", OUTSIDE, x -> x.table(3, n, bits));
            }
        }
    }

    /** 3 "of two decimal digits each, less 50", "the lowest two digits are of INPUT 0", "Its BITS". */
    private void weighTaken() {
        for (int slot : new int[] {0, 7}) {
            WeighGates x = Edges.busy();
            due("weigh(" + slot + ", 5, 0, -999)", x.weigh(slot, 5, 0, -999), 4294967295L);
            keeps(x, slot, 5, 4294967295L);
            due("weigh(" + slot + ", 1, .., 999)", x.weigh(slot, 1, WEIGHTS_49, 999), 0);
            keeps(x, slot, 1, 0);
        }
        WeighGates x = new WeighGates();
        long place = 1;
        for (int input = 0; input < 5; input++) {
            for (int n = input + 1; n <= 5; n++) {
                due("weight 1 of input " + input, x.weigh(2, n, WEIGHTS_0 + place, 1), Edges.tableOfInput(n, input));
                keeps(x, 2, n, Edges.tableOfInput(n, input));
            }
            for (int n = 1; n <= input; n++) {
                due("digits of no input are not looked at", x.weigh(2, n, WEIGHTS_0 + 49 * place, 1), 0);
                due("digits of no input are not looked at", x.weigh(2, n, WEIGHTS_0 - 50 * place, 0),
                        Edges.greatest(n));
            }
            place *= 100;
        }
    }

    /** "it tells 1 for a ROW, if the weights .. together, are t at least": at t, and one below it. */
    private void weighAtTheBound() {
        WeighGates x = new WeighGates();
        due("digits 99 are 49, at the bound", x.weigh(0, 1, 99, 49), 2);
        due("digits 99 are 49, below the bound", x.weigh(0, 1, 99, 50), 0);
        due("digits 00 are -50, at the bound", x.weigh(0, 1, 0, -50), 3);
        due("digits 00 are -50, below the bound", x.weigh(0, 1, 0, -49), 1);
        due("digits 50 are 0, at the bound", x.weigh(0, 1, 50, 0), 3);
        due("digits 50 are 0, below the bound", x.weigh(0, 1, 50, 1), 0);
        due("digits 49 are -1", x.weigh(0, 1, 49, 0), 1);
        due("the greatest sum, at the bound", x.weigh(0, 5, WEIGHTS_49, 245), 1L << 31);
        due("the greatest sum, below the bound", x.weigh(0, 5, WEIGHTS_49, 246), 0);
        due("the least sum, at the bound", x.weigh(0, 5, 0, -250), 4294967295L);
        due("the least sum, below the bound", x.weigh(0, 5, 0, -249), 2147483647L);
    }

    /** 3 "UNKNOWN; OUTSIDE: n, weights below 0, or of 10 to the 10 and more, BOUND is not -999 .. 999." */
    private void weighRefused() {
        for (int slot : Edges.NO_SLOTS) {
            edges.refusedAlways("weigh(" + slot + ", 1, 51, 1)", UNKNOWN, x -> x.weigh(slot, 1, 51, 1));
            edges.refusedAlways("weigh(" + slot + ", 6, 51, 1)", UNKNOWN, x -> x.weigh(slot, 6, 51, 1));
            edges.refusedAlways("weigh(" + slot + ", 1, -1, 1)", UNKNOWN, x -> x.weigh(slot, 1, -1, 1));
            edges.refusedAlways("weigh(" + slot + ", 1, 51, 1000)", UNKNOWN, x -> x.weigh(slot, 1, 51, 1000));
        }
        for (int n : NO_NUMBERS_OF_INPUTS) {
            edges.refusedAlways("weigh(0, " + n + ", 51, 0)", OUTSIDE, x -> x.weigh(0, n, 51, 0));
        }
        for (long weights : new long[] {-1, Long.MIN_VALUE, 10000000000L, Long.MAX_VALUE}) {
            for (int n : new int[] {1, 5}) {
                edges.refusedAlways("weigh(7, " + n + ", " + weights + ", 0)", OUTSIDE,
                        x -> x.weigh(7, n, weights, 0));
            }
        }
        for (int bound : new int[] {-1000, 1000, NONE, MIN, MAX}) {
            edges.refusedAlways("weigh(3, 5, 51, " + bound + ")", OUTSIDE, x -> x.weigh(3, 5, 51, bound));
        }
    }

    /** 4, 5 "BITS of a SLOT", "How many INPUTS it has", "UNKNOWN". */
    private void bitsAndInputs() {
        WeighGates x = Edges.busy();
        keeps(x, 0, 1, 2);
        keeps(x, 4, 5, 4294967294L);
        keeps(x, 7, 2, 7);
        for (int slot : Edges.NO_SLOTS) {
            edges.refusedAlways("bits(" + slot + ")", UNKNOWN, y -> y.bits(slot));
            edges.refusedAlways("inputs(" + slot + ")", UNKNOWN, y -> y.inputs(slot));
        }
        edges.changesNothing("bits(0)", Edges::busy, 2, y -> y.bits(0));
        edges.changesNothing("inputs(7)", Edges::busy, 2, y -> y.inputs(7));
    }

    /** 6 "1, where two of them at least are 1". */
    private void mostTaken() {
        WeighGates x = new WeighGates();
        for (int n = 1; n <= 5; n++) {
            x.table(0, n, Edges.greatest(n));
            x.table(6, n, 0);
            x.table(7, n, 2);
            due("most(1, 0, 0, 6): two are 1", x.most(1, 0, 0, 6), 1 << n);
            keeps(x, 1, n, Edges.greatest(n));
            due("most(1, 6, 6, 0): one is 1", x.most(1, 6, 6, 0), 0);
            keeps(x, 1, n, 0);
            due("most(1, 0, 7, 6): one row has two", x.most(1, 0, 7, 6), 1);
            keeps(x, 1, n, 2);
            due("most(7, 7, 7, 7): to is one of them", x.most(7, 7, 7, 7), 1);
            due("most(0, 6, 0, 7): to is one of them", x.most(0, 6, 0, 7), 1);
            keeps(x, 0, n, 2);
        }
        x.table(0, 1, 1);
        due("to had fewer inputs", x.most(0, 7, 7, 7), 1);
        keeps(x, 0, 5, 2);
        x.table(1, 3, 0b11110000);
        x.table(2, 3, 0b11001100);
        x.table(3, 3, 0b10101010);
        due("rows of 0, 1, 2 and 3 votes", x.most(7, 1, 2, 3), 4);
        keeps(x, 7, 3, 0b11101000);
    }

    /** 6 "UNKNOWN; STATE: they are not of as many INPUTS." Slots 2 and 6 have three, 1 two, 3 four. */
    private void mostRefused() {
        for (int slot : Edges.NO_SLOTS) {
            edges.refusedAlways("most(" + slot + ", 2, 2, 2)", UNKNOWN, x -> x.most(slot, 2, 2, 2));
            edges.refusedAlways("most(2, " + slot + ", 2, 2)", UNKNOWN, x -> x.most(2, slot, 2, 2));
            edges.refusedAlways("most(2, 2, " + slot + ", 2)", UNKNOWN, x -> x.most(2, 2, slot, 2));
            edges.refusedAlways("most(2, 2, 2, " + slot + ")", UNKNOWN, x -> x.most(2, 2, 2, slot));
            edges.refusedAlways("most(" + slot + ", 0, 1, 2)", UNKNOWN, x -> x.most(slot, 0, 1, 2));
            edges.refusedAlways("most(0, " + slot + ", 1, 2)", UNKNOWN, x -> x.most(0, slot, 1, 2));
            edges.refusedAlways("most(0, 1, " + slot + ", 2)", UNKNOWN, x -> x.most(0, 1, slot, 2));
            edges.refusedAlways("most(0, 1, 2, " + slot + ")", UNKNOWN, x -> x.most(0, 1, 2, slot));
        }
        for (int other : new int[] {1, 3}) {
            edges.changesNothing("most(0, " + other + ", 2, 6)", Edges::busy, STATE, x -> x.most(0, other, 2, 6));
            edges.changesNothing("most(0, 2, " + other + ", 6)", Edges::busy, STATE, x -> x.most(0, 2, other, 6));
            edges.changesNothing("most(0, 2, 6, " + other + ")", Edges::busy, STATE, x -> x.most(0, 2, 6, other));
        }
        edges.changesNothing("most(7, 1, 2, 3)", Edges::busy, STATE, x -> x.most(7, 1, 2, 3));
    }

    /** 7 "with an INPUT turned (NONE: all that is told)": the first and the last input of each n. */
    private void turnTaken() {
        WeighGates x = new WeighGates();
        for (int n = 1; n <= 5; n++) {
            long last = Edges.tableOfInput(n, n - 1);
            x.table(0, n, last);
            due("turn(7, 0, " + (n - 1) + ")", x.turn(7, 0, n - 1), 1 << n - 1);
            keeps(x, 7, n, Edges.greatest(n) - last);
            keeps(x, 0, n, last);
            due("turn(7, 7, NONE)", x.turn(7, 7, NONE), 1 << n - 1);
            keeps(x, 7, n, last);
            x.table(7, n, 1);
            due("turn(0, 7, 0)", x.turn(0, 7, 0), 1);
            keeps(x, 0, n, 2);
            due("turn(0, 0, NONE)", x.turn(0, 0, NONE), (1 << n) - 1);
            keeps(x, 0, n, Edges.greatest(n) - 2);
            x.table(0, n, 0);
            due("turn(0, 0, NONE) of all 0", x.turn(0, 0, NONE), 1 << n);
            keeps(x, 0, n, Edges.greatest(n));
            due("turn(0, 0, NONE) of all 1", x.turn(0, 0, NONE), 0);
            keeps(x, 0, n, 0);
        }
    }

    /** 7 "UNKNOWN: a SLOT, the INPUT." Slots 0, 2 and 4 have one input, three and five. */
    private void turnRefused() {
        for (int slot : Edges.NO_SLOTS) {
            edges.refusedAlways("turn(" + slot + ", 0, 0)", UNKNOWN, x -> x.turn(slot, 0, 0));
            edges.refusedAlways("turn(0, " + slot + ", 0)", UNKNOWN, x -> x.turn(0, slot, 0));
            edges.refusedAlways("turn(" + slot + ", 0, NONE)", UNKNOWN, x -> x.turn(slot, 0, NONE));
            edges.refusedAlways("turn(0, " + slot + ", NONE)", UNKNOWN, x -> x.turn(0, slot, NONE));
        }
        for (int input : new int[] {-1, 5, NONE - 1, NONE + 1, MIN, MAX}) {
            edges.refusedAlways("turn(4, 4, " + input + ")", UNKNOWN, x -> x.turn(4, 4, input));
        }
        edges.changesNothing("turn(4, 0, 1)", Edges::busy, UNKNOWN, x -> x.turn(4, 0, 1));
        edges.changesNothing("turn(4, 2, 3)", Edges::busy, UNKNOWN, x -> x.turn(4, 2, 3));
    }

    /** 8 "held at 0, at 1 (is), that is no INPUT any more, those behind it numbered less". */
    private void holdTaken() {
        WeighGates x = new WeighGates();
        for (int n = 2; n <= 5; n++) {
            for (int told = 0; told < n; told++) {
                for (int held = 0; held < n; held++) {
                    x.table(0, n, Edges.tableOfInput(n, told));
                    x.table(1, n, Edges.tableOfInput(n, told));
                    String call = ", " + held + ") of the table of input " + told + " of " + n;
                    due("hold false(7, 0" + call, x.hold(7, 0, held, false), n - 1);
                    keeps(x, 7, n - 1, leftOfInput(n, told, held, false));
                    due("hold true(7, 0" + call, x.hold(7, 0, held, true), n - 1);
                    keeps(x, 7, n - 1, leftOfInput(n, told, held, true));
                    keeps(x, 0, n, Edges.tableOfInput(n, told));
                    due("hold true(1, 1" + call, x.hold(1, 1, held, true), n - 1);
                    keeps(x, 1, n - 1, leftOfInput(n, told, held, true));
                    x = new WeighGates();
                }
            }
        }
    }

    private static long leftOfInput(int n, int told, int held, boolean is) {
        if (told == held) {
            return is ? Edges.greatest(n - 1) : 0;
        }
        return Edges.tableOfInput(n - 1, told < held ? told : told - 1);
    }

    /** 8 "UNKNOWN; STATE: it has just one." Slot 0 has one input, slot 7 two, slot 4 five. */
    private void holdRefused() {
        for (boolean is : new boolean[] {false, true}) {
            for (int slot : Edges.NO_SLOTS) {
                edges.refusedAlways("hold(" + slot + ", 7, 0)", UNKNOWN, x -> x.hold(slot, 7, 0, is));
                edges.refusedAlways("hold(7, " + slot + ", 0)", UNKNOWN, x -> x.hold(7, slot, 0, is));
                edges.refusedAlways("hold(" + slot + ", 0, 0)", UNKNOWN, x -> x.hold(slot, 0, 0, is));
            }
            for (int input : new int[] {-1, 5, NONE, MIN, MAX}) {
                edges.refusedAlways("hold(7, 4, " + input + ")", UNKNOWN, x -> x.hold(7, 4, input, is));
                edges.refusedAlways("hold(7, 0, " + input + ")", UNKNOWN, x -> x.hold(7, 0, input, is));
            }
            edges.refusedAlways("hold(4, 0, 1)", UNKNOWN, x -> x.hold(4, 0, 1, is));
            edges.refusedAlways("hold(4, 0, 0)", STATE, x -> x.hold(4, 0, 0, is));
            edges.refusedAlways("hold(0, 0, 0)", STATE, x -> x.hold(0, 0, 0, is));
            edges.changesNothing("hold(4, 7, 2)", Edges::busy, UNKNOWN, x -> x.hold(4, 7, 2, is));
        }
    }

    /** 9 "if a change of one alone changes what is told for some ROW"; "UNKNOWN". */
    private void matters() {
        for (int n = 1; n <= 5; n++) {
            for (int input = 0; input < n; input++) {
                WeighGates x = new WeighGates();
                x.table(7, n, 1L << (1 << n) - 1);
                due("matters for one row alone", x.matters(7, input), 1);
                x.table(7, n, Edges.greatest(n) - 1);
                due("matters for one row alone", x.matters(7, input), 1);
                x.table(7, n, Edges.greatest(n));
                due("matters to all 1", x.matters(7, input), 0);
                x.table(7, n, 0);
                due("matters to all 0", x.matters(7, input), 0);
                for (int told = 0; told < n; told++) {
                    x.table(7, n, Edges.tableOfInput(n, told));
                    due("matters to input " + told, x.matters(7, input), told == input ? 1 : 0);
                }
            }
        }
        for (int slot : Edges.NO_SLOTS) {
            edges.refusedAlways("matters(" + slot + ", 0)", UNKNOWN, x -> x.matters(slot, 0));
        }
        for (int input : new int[] {-1, 5, NONE, MIN, MAX}) {
            edges.refusedAlways("matters(4, " + input + ")", UNKNOWN, x -> x.matters(4, input));
        }
        edges.refusedAlways("matters(0, 1)", UNKNOWN, x -> x.matters(0, 1));
        edges.changesNothing("matters(7, 2)", Edges::busy, UNKNOWN, x -> x.matters(7, 2));
        edges.changesNothing("matters(7, 1)", Edges::busy, 1, x -> x.matters(7, 1));
    }

    /** 10 "In how many ROWS that are 1 an INPUT is 1 (NONE: how many ROWS are 1). UNKNOWN." */
    private void ones() {
        for (int n = 1; n <= 5; n++) {
            for (int input = 0; input < n; input++) {
                WeighGates x = new WeighGates();
                x.table(0, n, Edges.greatest(n));
                due("ones(0, " + input + ") of all 1", x.ones(0, input), 1 << n - 1);
                due("ones(0, NONE) of all 1", x.ones(0, NONE), 1 << n);
                x.table(0, n, 1);
                due("ones(0, " + input + ") of row 0", x.ones(0, input), 0);
                due("ones(0, NONE) of row 0", x.ones(0, NONE), 1);
                x.table(0, n, 1L << (1 << n) - 1);
                due("ones(0, " + input + ") of the last row", x.ones(0, input), 1);
                x.table(0, n, 0);
                due("ones(0, NONE) of all 0", x.ones(0, NONE), 0);
            }
        }
        for (int slot : Edges.NO_SLOTS) {
            edges.refusedAlways("ones(" + slot + ", 0)", UNKNOWN, x -> x.ones(slot, 0));
            edges.refusedAlways("ones(" + slot + ", NONE)", UNKNOWN, x -> x.ones(slot, NONE));
        }
        for (int input : new int[] {-1, 5, NONE - 1, NONE + 1, MIN, MAX}) {
            edges.refusedAlways("ones(4, " + input + ")", UNKNOWN, x -> x.ones(4, input));
        }
        edges.refusedAlways("ones(0, 1)", UNKNOWN, x -> x.ones(0, 1));
        edges.changesNothing("ones(7, 2)", Edges::busy, UNKNOWN, x -> x.ones(7, 2));
        edges.changesNothing("ones(7, NONE)", Edges::busy, 3, x -> x.ones(7, NONE));
    }
}
