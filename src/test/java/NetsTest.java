/** Promises 23 to 30: nets. */
public final class NetsTest {

    private static final int NONE = WeighGates.NONE;

    private final Check check = new Check();
    private WeighGates x = new WeighGates();

    public static void main(String[] args) {
        NetsTest test = new NetsTest();
        test.net();
        test.put();
        test.add();
        test.tell();
        test.unlike();
        test.depth();
        test.idle();
        test.count();
        test.check.finish();
    }

    private void due(String call, long got, long want) {
        check.due(call, got, want);
    }

    /** Two inputs, gate 0 tells both, gate 1 tells that they are unlike. */
    private void start() {
        x = new WeighGates();
        Edges.netOfUnlike(x);
    }

    private void unchanged(String after) {
        due("count(0) after " + after, x.count(0), 2);
        due("count(1) after " + after, x.count(1), 2);
        due("tell(7, 0) after " + after, x.tell(7, 0), 1);
        due("bits(7) after " + after, x.bits(7), 8);
        due("tell(7, 1) after " + after, x.tell(7, 1), 2);
        due("bits(7) after " + after, x.bits(7), 6);
    }

    private void net() {
        start();
        x.put(1, 7);
        for (int n : new int[] {0, 5, -1, Integer.MIN_VALUE, Integer.MAX_VALUE}) {
            due("net(" + n + ")", x.net(n), -2);
        }
        unchanged("refused net");
        due("what was put stays", x.put(1, 8), 7);
        due("net(4)", x.net(4), 2);
        due("nothing is put", x.put(1, 0), 0);
        due("net(1)", x.net(1), 0);
        due("count(0)", x.count(0), 1);
        x.add(0);
        x.put(0, 3);
        x.put(1, 5);
        due("net(1)", x.net(1), 1);
        due("put(0, 0)", x.put(0, 0), 0);
        x.add(1);
        due("weights of the net ahead are gone", x.put(1, 0), 0);
        due("gate 0 of the new net", x.tell(0, 0), 0);
        due("net(3)", x.net(3), 1);
        due("count(0)", x.count(0), 3);
        due("count(1)", x.count(1), 0);
    }

    private void put() {
        start();
        due("put(0, 9)", x.put(0, 9), 0);
        due("put(0, -9)", x.put(0, -9), 9);
        due("put(0, 10)", x.put(0, 10), -2);
        due("put(0, -10)", x.put(0, -10), -2);
        due("put(0, MIN)", x.put(0, Integer.MIN_VALUE), -2);
        due("put(4, 10)", x.put(4, 10), -1);
        due("put(-1, 0)", x.put(-1, 0), -1);
        due("put(NONE, 0)", x.put(NONE, 0), -1);
        due("put(MAX, 0)", x.put(Integer.MAX_VALUE, 0), -1);
        due("put(0, 1)", x.put(0, 1), -9);
        due("put(3, 4)", x.put(3, 4), 0);
        unchanged("put");
        x.add(0);
        for (int from = 0; from < 5; from++) {
            due("put(" + from + ", 0) behind a gate", x.put(from, 0), 0);
        }
        due("put(5, 0)", x.put(5, 0), -1);
        putWhenFull();
    }

    private void putWhenFull() {
        x.net(4);
        for (int gate = 0; gate < 8; gate++) {
            x.add(1);
        }
        for (int from = 0; from < 12; from++) {
            due("put(" + from + ", 2) of a full net", x.put(from, 2), 0);
        }
        due("put(12, 2) of a full net", x.put(12, 2), -1);
        due("add(0) of a full net", x.add(0), -4);
        due("what was put stays", x.put(11, 3), 2);
        due("a full net's gate is as it was", x.tell(0, 7), 0);
        x.net(4);
        due("put(0, 0) of a new net", x.put(0, 0), 0);
    }

    private void add() {
        x = new WeighGates();
        x.put(0, 9);
        due("add(100)", x.add(100), -2);
        due("add(-100)", x.add(-100), -2);
        due("add(MIN)", x.add(Integer.MIN_VALUE), -2);
        due("what was put stays", x.put(0, 9), 9);
        due("add(9)", x.add(9), 0);
        due("tell(0, 0)", x.tell(0, 0), 1);
        due("bits(0)", x.bits(0), 2);
        due("add(99)", x.add(99), 1);
        due("tell(0, 1)", x.tell(0, 1), 0);
        due("add(-99)", x.add(-99), 2);
        due("tell(0, 2)", x.tell(0, 2), 2);
        for (int gate = 3; gate < 8; gate++) {
            due("add(0)", x.add(0), gate);
        }
        due("add(0)", x.add(0), -4);
        due("add(100) of a full net", x.add(100), -2);
        due("count(1)", x.count(1), 8);
    }

    private void tell() {
        start();
        x.table(3, 5, 9);
        due("tell(8, 0)", x.tell(8, 0), -1);
        due("tell(-1, 0)", x.tell(-1, 0), -1);
        due("tell(3, 2)", x.tell(3, 2), -1);
        due("tell(3, -1)", x.tell(3, -1), -1);
        due("bits(3) after refused tell", x.bits(3), 9);
        due("inputs(3) after refused tell", x.inputs(3), 5);
        due("tell(3, 1)", x.tell(3, 1), 2);
        due("bits(3)", x.bits(3), 6);
        due("inputs(3)", x.inputs(3), 2);
        x.net(4);
        for (int input = 0; input < 4; input++) {
            x.put(input, -9);
        }
        x.add(-35);
        due("tell(3, 0)", x.tell(3, 0), 15);
        due("bits(3)", x.bits(3), 32767);
        due("inputs(3)", x.inputs(3), 4);
    }

    private void unlike() {
        x = new WeighGates();
        due("unlike(8) without gates", x.unlike(8), -1);
        due("unlike(0) without gates", x.unlike(0), -3);
        start();
        due("unlike(-1)", x.unlike(-1), -1);
        due("unlike(0) of 1 input", x.unlike(0), -3);
        x.table(0, 3, 6);
        due("unlike(0) of 3 inputs", x.unlike(0), -3);
        x.table(0, 2, 6);
        due("unlike(0), alike", x.unlike(0), NONE);
        x.table(0, 2, 14);
        due("unlike(0), last row", x.unlike(0), 3);
        x.table(0, 2, 9);
        due("unlike(0), all rows", x.unlike(0), 0);
        x.table(0, 2, 0);
        due("unlike(0), rows 1 and 2", x.unlike(0), 1);
        x.table(0, 2, 8);
        due("the last gate, not the first", x.unlike(0), 1);
        x.net(2);
        due("unlike(0) of an empty net", x.unlike(0), -3);
    }

    private void depth() {
        start();
        due("depth(0)", x.depth(0), 1);
        due("depth(1)", x.depth(1), 2);
        x.put(2, 3);
        x.add(1);
        due("depth(2) behind gate 0 alone", x.depth(2), 2);
        x.put(3, -1);
        x.put(4, 1);
        x.add(1);
        due("depth(3)", x.depth(3), 3);
        x.put(5, 1);
        x.put(5, 0);
        x.put(2, 1);
        x.add(0);
        due("depth(4), a weight 0 does not count", x.depth(4), 2);
        x.add(0);
        due("depth(5), nothing put", x.depth(5), 1);
        x.put(5, 1);
        x.put(6, 1);
        x.add(0);
        due("depth(6), the deepest counts", x.depth(6), 4);
        due("depth(7)", x.depth(7), -1);
        due("depth(-1)", x.depth(-1), -1);
        due("depth(0) still", x.depth(0), 1);
        x.net(1);
        for (int gate = 0; gate < 8; gate++) {
            x.put(gate, 1);
            x.add(1);
        }
        due("depth(7) of a chain", x.depth(7), 8);
    }

    private void idle() {
        start();
        due("idle(0, false)", x.idle(0, false), 0);
        due("idle(0, true)", x.idle(0, true), 0);
        due("idle(1, false)", x.idle(1, false), 0);
        due("idle(1, true)", x.idle(1, true), 0);
        due("idle(2, true)", x.idle(2, true), -1);
        due("idle(-1, false)", x.idle(-1, false), -1);
        unchanged("idle");
        x.put(2, 1);
        x.add(1);
        due("the last is gate 2: idle(1, false)", x.idle(1, false), 1);
        due("idle(1, true)", x.idle(1, true), 1);
        due("idle(0, false)", x.idle(0, false), 0);
        x.put(0, 1);
        x.put(1, 1);
        x.put(4, 1);
        x.add(2);
        due("both and both: idle(2, false)", x.idle(2, false), 1);
        due("idle(2, true)", x.idle(2, true), 0);
        x.add(1);
        due("always 0: idle(4, false)", x.idle(4, false), 1);
        due("always 0: idle(4, true)", x.idle(4, true), 0);
        x.add(0);
        due("always 1: idle(5, true)", x.idle(5, true), 1);
        due("always 1: idle(5, false)", x.idle(5, false), 0);
    }

    private void count() {
        start();
        due("count(0)", x.count(0), 2);
        due("count(1)", x.count(1), 2);
        for (int what : new int[] {-1, 2, NONE, Integer.MIN_VALUE, Integer.MAX_VALUE}) {
            due("count(" + what + ")", x.count(what), -2);
        }
    }
}
