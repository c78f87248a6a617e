/** Promises 1 to 10: a new object and tables. */
public final class TablesTest {

    private static final int NONE = WeighGates.NONE;
    private static final long ALL_OF_FIVE = 4294967295L;

    private final Check check = new Check();
    private WeighGates x = new WeighGates();

    public static void main(String[] args) {
        TablesTest test = new TablesTest();
        test.newObject();
        test.table();
        test.weigh();
        test.bitsAndInputs();
        test.most();
        test.turn();
        test.hold();
        test.matters();
        test.ones();
        test.check.finish();
    }

    private void due(String call, long got, long want) {
        check.due(call, got, want);
    }

    /** Slot 3 gets a table that a refused call must leave. */
    private void start() {
        x = new WeighGates();
        x.table(3, 3, 150);
    }

    private void unchanged(String after) {
        due("bits(3) after " + after, x.bits(3), 150);
        due("inputs(3) after " + after, x.inputs(3), 3);
    }

    private void newObject() {
        WeighGates fresh = new WeighGates();
        for (int slot = 0; slot < 8; slot++) {
            due("new: bits(" + slot + ")", fresh.bits(slot), 0);
            due("new: inputs(" + slot + ")", fresh.inputs(slot), 1);
        }
        due("new: count(0)", fresh.count(0), 1);
        due("new: count(1)", fresh.count(1), 0);
        due("new: unlike(0)", fresh.unlike(0), -3);
        due("new: put(0, 1)", fresh.put(0, 1), 0);
        WeighGates other = new WeighGates();
        fresh.table(0, 2, 9);
        due("another object's bits(0)", other.bits(0), 0);
        due("another object's put(0, 0)", other.put(0, 0), 0);
    }

    private void table() {
        start();
        for (int n = 1; n <= 5; n++) {
            long all = Oracle.all(n);
            due("table(3, " + n + ", all)", x.table(3, n, all), 1 << n);
            due("inputs(3)", x.inputs(3), n);
            due("bits(3)", x.bits(3), all);
            due("table(3, " + n + ", 0)", x.table(3, n, 0), 0);
            due("bits(3)", x.bits(3), 0);
            due("table(3, " + n + ", too much)", x.table(3, n, all + 1), -2);
            due("table(3, " + n + ", -1)", x.table(3, n, -1), -2);
            due("bits(3) after refusals", x.bits(3), 0);
        }
        start();
        due("table(8, 0, -1)", x.table(8, 0, -1), -1);
        due("table(-1, 1, 1)", x.table(-1, 1, 1), -1);
        due("table(MAX, 1, 1)", x.table(Integer.MAX_VALUE, 1, 1), -1);
        due("table(3, 0, 0)", x.table(3, 0, 0), -2);
        due("table(3, 6, 0)", x.table(3, 6, 0), -2);
        due("table(3, -1, 0)", x.table(3, -1, 0), -2);
        due("table(3, MIN, 0)", x.table(3, Integer.MIN_VALUE, 0), -2);
        due("table(3, 33, 0)", x.table(3, 33, 0), -2);
        due("table(3, 5, MAX)", x.table(3, 5, Long.MAX_VALUE), -2);
        due("table(3, 5, MIN)", x.table(3, 5, Long.MIN_VALUE), -2);
        unchanged("refused table");
        due("table(7, 1, 2)", x.table(7, 1, 2), 1);
        due("bits(7)", x.bits(7), 2);
    }

    private void weigh() {
        start();
        due("weigh and", x.weigh(0, 2, 5151, 2), 8);
        due("inputs(0)", x.inputs(0), 2);
        due("bits(0)", x.bits(0), 8);
        due("weigh or", x.weigh(0, 2, 5151, 1), 14);
        due("input 0 has the lowest digits", x.weigh(0, 2, 5051, 1), 10);
        due("digits of no input are not looked at", x.weigh(0, 2, 9999995151L, 2), 8);
        due("weights -50", x.weigh(0, 1, 0, -50), 3);
        due("weights -50, bound -49", x.weigh(0, 1, 0, -49), 1);
        due("weights 49", x.weigh(0, 1, 99, 49), 2);
        due("weights 49, bound 50", x.weigh(0, 1, 99, 50), 0);
        due("greatest weights", x.weigh(0, 5, 9999999999L, 245), 1L << 31);
        due("greatest bound", x.weigh(0, 5, 9999999999L, 999), 0);
        due("least bound", x.weigh(0, 5, 0, -999), ALL_OF_FIVE);
        due("sum of least weights", x.weigh(0, 5, 0, -249), ALL_OF_FIVE >> 1);
        due("weigh(8, 0, -1, 1000)", x.weigh(8, 0, -1, 1000), -1);
        due("weigh(-1, 1, 0, 0)", x.weigh(-1, 1, 0, 0), -1);
        due("weigh, n 0", x.weigh(3, 0, 0, 0), -2);
        due("weigh, n 6", x.weigh(3, 6, 0, 0), -2);
        due("weigh, weights -1", x.weigh(3, 1, -1, 0), -2);
        due("weigh, weights 10 to the 10", x.weigh(3, 1, 10000000000L, 0), -2);
        due("weigh, bound 1000", x.weigh(3, 1, 0, 1000), -2);
        due("weigh, bound -1000", x.weigh(3, 1, 0, -1000), -2);
        unchanged("refused weigh");
    }

    private void bitsAndInputs() {
        start();
        for (int slot : new int[] {-1, 8, Integer.MIN_VALUE, Integer.MAX_VALUE}) {
            due("bits(" + slot + ")", x.bits(slot), -1);
            due("inputs(" + slot + ")", x.inputs(slot), -1);
        }
        x.table(7, 5, ALL_OF_FIVE);
        due("bits(7)", x.bits(7), ALL_OF_FIVE);
        due("inputs(7)", x.inputs(7), 5);
        unchanged("another slot's table");
    }

    private void most() {
        start();
        x.table(0, 3, 0b11110000);
        x.table(1, 3, 0b11001100);
        x.table(2, 3, 0b10101010);
        due("most(4, 0, 1, 2)", x.most(4, 0, 1, 2), 4);
        due("bits(4)", x.bits(4), 0b11101000);
        due("inputs(4)", x.inputs(4), 3);
        due("most(0, 0, 1, 1)", x.most(0, 0, 1, 1), 4);
        due("bits(0)", x.bits(0), 0b11001100);
        x.table(5, 2, 6);
        due("another c", x.most(3, 0, 1, 5), -3);
        due("another b", x.most(3, 0, 5, 1), -3);
        due("another a", x.most(3, 5, 0, 1), -3);
        due("to of other inputs is fine", x.most(6, 5, 5, 5), 2);
        due("inputs(6)", x.inputs(6), 2);
        due("most(8, ..)", x.most(8, 0, 1, 5), -1);
        due("most(.., 8, ..)", x.most(3, 8, 1, 5), -1);
        due("most(.., -1, ..)", x.most(3, 0, -1, 5), -1);
        due("most(.., 8)", x.most(3, 0, 5, 8), -1);
        unchanged("refused most");
    }

    private void turn() {
        start();
        x.table(0, 3, 0b11101000);
        due("turn(1, 0, 0)", x.turn(1, 0, 0), 4);
        due("bits(1)", x.bits(1), 0b11010100);
        due("turn(1, 0, 2)", x.turn(1, 0, 2), 4);
        due("bits(1)", x.bits(1), 0b10001110);
        due("inputs(1)", x.inputs(1), 3);
        x.table(0, 2, 8);
        due("turn(1, 0, NONE)", x.turn(1, 0, NONE), 3);
        due("bits(1)", x.bits(1), 7);
        x.table(0, 5, 1);
        due("turn(0, 0, 4)", x.turn(0, 0, 4), 1);
        due("bits(0)", x.bits(0), 1L << 16);
        due("turn(0, 0, NONE)", x.turn(0, 0, NONE), 31);
        due("bits(0)", x.bits(0), ALL_OF_FIVE - (1L << 16));
        due("turn(8, 0, 0)", x.turn(8, 0, 0), -1);
        due("turn(3, 8, NONE)", x.turn(3, 8, NONE), -1);
        due("turn(-1, 0, NONE)", x.turn(-1, 0, NONE), -1);
        due("turn(3, 0, 5)", x.turn(3, 0, 5), -1);
        due("turn(3, 0, -1)", x.turn(3, 0, -1), -1);
        due("turn(3, 3, 3)", x.turn(3, 3, 3), -1);
        due("turn(3, 0, NONE + 1)", x.turn(3, 0, NONE + 1), -1);
        unchanged("refused turn");
    }

    private void hold() {
        start();
        x.table(0, 3, 0b11011000);
        due("hold(1, 0, 0, false)", x.hold(1, 0, 0, false), 2);
        due("bits(1)", x.bits(1), 0b1100);
        due("hold(1, 0, 0, true)", x.hold(1, 0, 0, true), 2);
        due("bits(1)", x.bits(1), 0b1010);
        due("hold(1, 0, 1, false)", x.hold(1, 0, 1, false), 2);
        due("bits(1)", x.bits(1), 0b0100);
        due("hold(1, 0, 1, true)", x.hold(1, 0, 1, true), 2);
        due("bits(1)", x.bits(1), 0b1110);
        due("hold(1, 0, 2, false)", x.hold(1, 0, 2, false), 2);
        due("bits(1)", x.bits(1), 0b1000);
        due("hold(1, 0, 2, true)", x.hold(1, 0, 2, true), 2);
        due("bits(1)", x.bits(1), 0b1101);
        due("inputs(1)", x.inputs(1), 2);
        due("hold(1, 1, 0, true)", x.hold(1, 1, 0, true), 1);
        due("bits(1)", x.bits(1), 0b10);
        due("hold(3, 1, 0, true)", x.hold(3, 1, 0, true), -3);
        due("hold(3, 1, 1, true)", x.hold(3, 1, 1, true), -1);
        due("hold(8, 1, 0, true)", x.hold(8, 1, 0, true), -1);
        due("hold(3, 8, 0, true)", x.hold(3, 8, 0, true), -1);
        due("hold(3, 0, 3, true)", x.hold(3, 0, 3, true), -1);
        due("hold(3, 0, -1, true)", x.hold(3, 0, -1, true), -1);
        due("hold(3, 0, NONE, true)", x.hold(3, 0, NONE, true), -1);
        unchanged("refused hold");
    }

    private void matters() {
        start();
        x.table(0, 3, 0b11001100);
        due("matters(0, 0)", x.matters(0, 0), 0);
        due("matters(0, 1)", x.matters(0, 1), 1);
        due("matters(0, 2)", x.matters(0, 2), 0);
        x.table(0, 5, 1L << 31);
        for (int input = 0; input < 5; input++) {
            due("matters in one row alone", x.matters(0, input), 1);
        }
        due("matters(1, 0)", x.matters(1, 0), 0);
        due("matters(1, 1)", x.matters(1, 1), -1);
        due("matters(0, 5)", x.matters(0, 5), -1);
        due("matters(0, -1)", x.matters(0, -1), -1);
        due("matters(0, NONE)", x.matters(0, NONE), -1);
        due("matters(8, 0)", x.matters(8, 0), -1);
        due("matters(-1, 0)", x.matters(-1, 0), -1);
        unchanged("matters");
    }

    private void ones() {
        start();
        x.table(0, 3, 0b11011000);
        due("ones(0, 0)", x.ones(0, 0), 2);
        due("ones(0, 1)", x.ones(0, 1), 3);
        due("ones(0, 2)", x.ones(0, 2), 3);
        due("ones(0, NONE)", x.ones(0, NONE), 4);
        x.table(0, 5, ALL_OF_FIVE);
        due("ones(0, 4)", x.ones(0, 4), 16);
        due("ones(0, NONE)", x.ones(0, NONE), 32);
        due("ones(0, 5)", x.ones(0, 5), -1);
        due("ones(0, -1)", x.ones(0, -1), -1);
        due("ones(1, 1)", x.ones(1, 1), -1);
        due("ones(8, NONE)", x.ones(8, NONE), -1);
        due("ones(-1, 0)", x.ones(-1, 0), -1);
        unchanged("ones");
    }
}
