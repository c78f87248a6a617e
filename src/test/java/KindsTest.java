/** Promises 17 to 22: kinds, their chiefs and numbers, the fewest gates and the first of two. */
public final class KindsTest {

    private static final int NONE = WeighGates.NONE;

    private final Check check = new Check();
    private final Tabled tabled = new Tabled(5);
    private WeighGates x = new WeighGates();

    public static void main(String[] args) {
        KindsTest test = new KindsTest();
        test.refusals();
        test.allChiefs();
        test.numbers();
        test.allPairs();
        test.check.finish();
    }

    private void due(String call, long got, long want) {
        check.due(call, got, want);
    }

    private void refusals() {
        for (int slot : new int[] {-1, 8, Integer.MIN_VALUE, Integer.MAX_VALUE}) {
            due("chief(" + slot + ")", x.chief(slot), -1);
            due("kin(" + slot + ")", x.kin(slot), -1);
            due("fewest(" + slot + ")", x.fewest(slot), -1);
            due("first(" + slot + ")", x.first(slot), -1);
        }
        x.table(0, 5, 7);
        x.table(1, 4, 7);
        due("chief of 5 inputs", x.chief(0), -3);
        due("kin of 5 inputs", x.kin(0), -3);
        due("fewest of 5 inputs", x.fewest(0), -3);
        due("first of 5 inputs", x.first(0), -3);
        due("fewest of 4 inputs", x.fewest(1), -3);
        due("first of 4 inputs", x.first(1), -3);
        for (int n : new int[] {0, 5, -1, Integer.MIN_VALUE, Integer.MAX_VALUE}) {
            due("gates(" + n + ")", x.gates(n), -2);
        }
        for (int n : new int[] {0, 4, -1, Integer.MIN_VALUE, Integer.MAX_VALUE}) {
            due("kinds(" + n + ", true)", x.kinds(n, true), -2);
            due("kinds(" + n + ", false)", x.kinds(n, false), -2);
        }
        due("bits(0)", x.bits(0), 7);
        due("inputs(1)", x.inputs(1), 4);
    }

    private void allChiefs() {
        for (int n = 1; n <= 4; n++) {
            int[] members = new int[(int) Oracle.all(n) + 1];
            for (int chief : Oracle.chiefs(n)) {
                members[chief]++;
            }
            for (int bits = 0; bits <= Oracle.all(n); bits++) {
                x = tabled.with(n, bits);
                int chief = Oracle.chiefs(n)[bits];
                String of = " of " + n + " inputs, bits " + bits;
                due("chief" + of, x.chief(5), chief);
                due("kin" + of, x.kin(5), members[chief]);
            }
        }
        due("bits(5) after chief and kin", x.bits(5), Oracle.all(4));
    }

    private void numbers() {
        x = new WeighGates();
        for (int n = 1; n <= 4; n++) {
            due("gates(" + n + ")", x.gates(n), Oracle.leastWeighings(n).size());
            due("tables that no witness proves to be no gates", withoutWitness(n), x.gates(n));
        }
        for (int n = 1; n <= 3; n++) {
            due("kinds(" + n + ", true)", x.kinds(n, true), Oracle.kinds(n, true));
            due("kinds(" + n + ", false)", x.kinds(n, false), Oracle.kinds(n, false));
        }
    }

    private static int withoutWitness(int n) {
        int number = 0;
        for (long bits = 0; bits <= Oracle.all(n); bits++) {
            number += Oracle.witness(n, bits) == null ? 1 : 0;
        }
        return number;
    }

    private void allPairs() {
        for (int n = 1; n <= 3; n++) {
            for (int bits = 0; bits <= Oracle.all(n); bits++) {
                x = tabled.with(n, bits);
                boolean gate = Oracle.isGate(n, bits);
                int first = Oracle.first(n, bits);
                String of = " of " + n + " inputs, bits " + bits;
                check.holds("one gate or two tell the table" + of, gate || first != NONE);
                due("fewest" + of, x.fewest(5), gate ? 1 : 2);
                due("first" + of, x.first(5), first);
            }
        }
    }
}
