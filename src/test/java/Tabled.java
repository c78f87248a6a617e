/** An object with a table in a slot: a new one now and then, for an object is used for 512 calls at most. */
final class Tabled {

    private static final int TABLES_FOR_ONE_OBJECT = 30;

    private final int slot;
    private WeighGates x;
    private int tables;

    Tabled(int slot) {
        this.slot = slot;
    }

    WeighGates with(int n, long bits) {
        if (x == null || tables == TABLES_FOR_ONE_OBJECT) {
            x = new WeighGates();
            tables = 0;
        }
        tables++;
        x.table(slot, n, bits);
        return x;
    }
}
