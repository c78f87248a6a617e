import java.util.List;
import java.util.Map;
import java.util.Random;

/** Promises 11 to 16: gates, least weighings, witnesses, slack. */
public final class GatesTest {

    private static final int NONE = WeighGates.NONE;

    private final Check check = new Check();
    private final Tabled tabled = new Tabled(2);
    private WeighGates x = new WeighGates();

    public static void main(String[] args) {
        GatesTest test = new GatesTest();
        test.examples();
        test.refusals();
        test.allOfFourInputs();
        test.allGatesOfFiveInputs();
        test.likeOnes();
        test.allRisingTablesOfFiveInputs();
        test.neighboursOfGates();
        test.randomTables();
        test.check.finish();
    }

    private void due(String call, long got, long want) {
        check.due(call, got, want);
    }

    private void examples() {
        x.table(0, 1, 2);
        due("gate of one input", x.gate(0), 1);
        due("its weight", x.weight(0, 0), 1);
        due("its bound", x.bound(0), 1);
        due("its slack", x.slack(0), 499);
        x.table(0, 1, 1);
        due("weight of not", x.weight(0, 0), -1);
        due("bound of not", x.bound(0), 0);
        x.table(0, 3, 0);
        due("all 0: size", x.size(0), 0);
        due("all 0: bound", x.bound(0), 1);
        due("all 0: slack", x.slack(0), 166);
        x.table(0, 3, 255);
        due("all 1: size", x.size(0), 0);
        due("all 1: bound", x.bound(0), 0);
        due("all 1: witness", x.witness(0, 3), NONE);
        x.table(0, 2, 6);
        due("gate of unlike inputs", x.gate(0), 0);
        due("weight", x.weight(0, 0), NONE);
        due("bound", x.bound(0), NONE);
        due("size", x.size(0), NONE);
        due("slack", x.slack(0), NONE);
        for (int i = 0; i < 4; i++) {
            due("witness(0, " + i + ")", x.witness(0, i), new int[] {1, 2, 0, 3}[i]);
        }
    }

    private void refusals() {
        x = new WeighGates();
        x.table(0, 2, 6);
        for (int slot : new int[] {-1, 8, Integer.MIN_VALUE, Integer.MAX_VALUE}) {
            due("gate(" + slot + ")", x.gate(slot), -1);
            due("weight(" + slot + ", 0)", x.weight(slot, 0), -1);
            due("bound(" + slot + ")", x.bound(slot), -1);
            due("size(" + slot + ")", x.size(slot), -1);
            due("witness(" + slot + ", 9)", x.witness(slot, 9), -1);
            due("slack(" + slot + ")", x.slack(slot), -1);
        }
        due("weight(0, 2)", x.weight(0, 2), -1);
        due("weight(0, -1)", x.weight(0, -1), -1);
        due("weight(0, NONE)", x.weight(0, NONE), -1);
        due("weight(1, 1)", x.weight(1, 1), -1);
        due("witness(0, 4)", x.witness(0, 4), -2);
        due("witness(0, -1)", x.witness(0, -1), -2);
        due("witness(1, 4) of a gate", x.witness(1, 4), -2);
        due("witness(1, 0) of a gate", x.witness(1, 0), NONE);
        due("bits(0)", x.bits(0), 6);
        due("inputs(0)", x.inputs(0), 2);
    }

    private void allOfFourInputs() {
        for (int n = 1; n <= 4; n++) {
            for (long bits = 0; bits <= Oracle.all(n); bits++) {
                x = tabled.with(n, bits);
                if (Oracle.isGate(n, bits)) {
                    gate(n, bits);
                } else {
                    noGate(n, bits);
                }
            }
        }
    }

    private void allGatesOfFiveInputs() {
        for (long bits : Oracle.leastWeighings(5).keySet()) {
            x = tabled.with(5, bits);
            gate(5, bits);
        }
    }

    /** The order among least weighings of one table decides nothing: there never are two. */
    private void likeOnes() {
        due("weighings as small as the least", Oracle.likeOnes(5), 0);
    }

    /**
     * That a table without a witness is a gate. Where an input makes one row 1 and another 0, these two
     * rows and those beside them are a witness. So in a table without one each input works one way, and
     * with some inputs turned, which changes neither side of the claim, the table is a rising one.
     */
    private void allRisingTablesOfFiveInputs() {
        List<Long> rising = Oracle.risingTables(5);
        due("rising tables of 5 inputs", rising.size(), 7581);
        for (long bits : rising) {
            x = tabled.with(5, bits);
            due("gate of 5 inputs, bits " + bits, x.gate(2), Oracle.isGate(5, bits) ? 1 : 0);
        }
    }

    private void gate(int n, long bits) {
        String of = " of " + n + " inputs, bits " + bits;
        due("gate" + of, x.gate(2), 1);
        for (int input = 0; input < n; input++) {
            due("weight " + input + of, x.weight(2, input), Oracle.weight(n, bits, input));
        }
        due("bound" + of, x.bound(2), Oracle.bound(n, bits));
        due("size" + of, x.size(2), Oracle.size(n, bits));
        due("witness" + of, x.witness(2, 0), NONE);
        int slack = x.slack(2);
        check.holds("slack" + of + " answered " + slack, Oracle.isSlack(n, bits, slack));
    }

    private void noGate(int n, long bits) {
        String of = " of " + n + " inputs, bits " + bits;
        int[] rows = Oracle.witness(n, bits);
        due("gate" + of, x.gate(2), 0);
        for (int i = 0; i < 4; i++) {
            due("witness " + i + of, x.witness(2, i), rows[i]);
        }
        due("weight" + of, x.weight(2, n - 1), NONE);
        due("bound" + of, x.bound(2), NONE);
        due("size" + of, x.size(2), NONE);
        due("slack" + of, x.slack(2), NONE);
    }

    /** Tables that are hardest to tell from gates: gates but for one row. */
    private void neighboursOfGates() {
        Map<Long, int[]> gates = Oracle.leastWeighings(5);
        for (long bits : gates.keySet()) {
            for (int row = 0; row < 32; row++) {
                long other = bits ^ 1L << row;
                if (!gates.containsKey(other) && (other ^ other >> 7) % 8 == 3) {
                    x = tabled.with(5, other);
                    due("gate of 5 inputs, bits " + other, x.gate(2), 0);
                    if (other % 997 == 0) {
                        noGate(5, other);
                    }
                }
            }
        }
    }

    private void randomTables() {
        Random random = new Random(16);
        for (int time = 0; time < 2000; time++) {
            long bits = random.nextLong() & Oracle.all(5);
            x = tabled.with(5, bits);
            if (!Oracle.isGate(5, bits)) {
                noGate(5, bits);
            }
        }
    }
}
