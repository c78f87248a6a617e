import java.util.Random;

/** Promises 1 to 30 in mixed runs of 512 calls, right ones and wrong ones, against the model. */
public final class RunsTest {

    private static final int RUNS = 400;
    private static final int CALLS = 512;
    /** For the look at the end, and for puts that come three at once. */
    private static final int CALLS_KEPT_BACK = 24;
    private static final int KINDS_OF_CALLS = 29;

    private final Check check = new Check();
    private final Random random = new Random(2026);
    private WeighGates x;
    private Model model;
    private int run;
    private int calls;

    public static void main(String[] args) {
        RunsTest test = new RunsTest();
        for (test.run = 0; test.run < RUNS; test.run++) {
            test.mixedRun();
        }
        test.check.finish();
    }

    private void mixedRun() {
        x = new WeighGates();
        model = new Model();
        for (calls = 0; calls < CALLS - CALLS_KEPT_BACK; calls++) {
            int call = random.nextInt(KINDS_OF_CALLS);
            if (call < 9) {
                callOnTables(call);
            } else if (call < 15) {
                callOnGates(call);
            } else if (call < 21) {
                callOnKinds(call);
            } else {
                callOnNets(call);
            }
        }
        look();
    }

    /** All state that calls can show at the end. */
    private void look() {
        for (int slot = 0; slot < 8; slot++) {
            due("bits", x.bits(slot), model.bits(slot), slot);
            due("inputs", x.inputs(slot), model.inputs(slot), slot);
        }
        due("count", x.count(0), model.count(0), 0);
        due("count", x.count(1), model.count(1), 1);
    }

    private void due(String call, long got, long want, long... with) {
        StringBuilder text = new StringBuilder("run " + run + ", call " + calls + ": " + call);
        if (got != want) {
            for (long number : with) {
                text.append(' ').append(number);
            }
        }
        check.due(text.toString(), got, want);
    }

    /** Mostly from .. to, now and then beyond. */
    private int number(int from, int to) {
        switch (random.nextInt(60)) {
            case 0:
                return from - 1;
            case 1:
                return to + 1;
            case 2:
                return Integer.MIN_VALUE;
            case 3:
                return WeighGates.NONE;
            case 4:
                return random.nextInt();
            default:
                return from + random.nextInt(to - from + 1);
        }
    }

    private int slot() {
        return number(0, 7);
    }

    private int inputOf(int slot) {
        int n = slot < 0 || slot > 7 ? 5 : (int) model.inputs(slot);
        return number(0, n - 1);
    }

    private long anyBits(int n) {
        if (random.nextInt(30) == 0) {
            return random.nextLong();
        }
        int inputs = Math.max(1, Math.min(5, n));
        return random.nextInt(20) == 0 ? Oracle.all(inputs) + 1 : random.nextLong() & Oracle.all(inputs);
    }

    private void callOnTables(int call) {
        int to = slot(), a = slot(), b = slot(), c = slot();
        int n = number(1, 5);
        int input = inputOf(a);
        boolean is = random.nextBoolean();
        switch (call) {
            case 0: {
                long bits = anyBits(n);
                due("table", x.table(to, n, bits), model.table(to, n, bits), to, n, bits);
                break;
            }
            case 1: {
                long weights = random.nextInt(20) == 0 ? random.nextLong() : smallWeights();
                int bound = random.nextInt(3) == 0 ? number(-999, 999) : number(-5, 5);
                due("weigh", x.weigh(to, n, weights, bound), model.weigh(to, n, weights, bound), to, n, weights, bound);
                break;
            }
            case 2:
                due("bits", x.bits(a), model.bits(a), a);
                break;
            case 3:
                due("inputs", x.inputs(a), model.inputs(a), a);
                break;
            case 4:
                due("most", x.most(to, a, b, c), model.most(to, a, b, c), to, a, b, c);
                break;
            case 5:
                due("turn", x.turn(to, a, input), model.turn(to, a, input), to, a, input);
                break;
            case 6:
                due("hold", x.hold(to, a, input, is), model.hold(to, a, input, is), to, a, input, is ? 1 : 0);
                break;
            case 7:
                due("matters", x.matters(a, input), model.matters(a, input), a, input);
                break;
            default:
                due("ones", x.ones(a, input), model.ones(a, input), a, input);
        }
    }

    private long smallWeights() {
        int spread = 1 + random.nextInt(49);
        long weights = 0;
        for (int i = 0; i < 5; i++) {
            weights = weights * 100 + 50 + random.nextInt(2 * spread + 1) - spread;
        }
        return weights;
    }

    private void callOnGates(int call) {
        int slot = slot();
        int input = inputOf(slot);
        int i = number(0, 3);
        switch (call) {
            case 9:
                due("gate", x.gate(slot), model.gate(slot), slot);
                break;
            case 10:
                due("weight", x.weight(slot, input), model.weight(slot, input), slot, input);
                break;
            case 11:
                due("bound", x.bound(slot), model.bound(slot), slot);
                break;
            case 12:
                due("size", x.size(slot), model.size(slot), slot);
                break;
            case 13:
                due("witness", x.witness(slot, i), model.witness(slot, i), slot, i);
                break;
            default:
                due("slack", x.slack(slot), model.slack(slot), slot);
        }
    }

    private void callOnKinds(int call) {
        int slot = slot();
        int n = number(1, 4);
        boolean all = random.nextBoolean();
        switch (call) {
            case 15:
                due("chief", x.chief(slot), model.chief(slot), slot);
                break;
            case 16:
                due("kin", x.kin(slot), model.kin(slot), slot);
                break;
            case 17:
                due("gates", x.gates(n), model.gates(n), n);
                break;
            case 18:
                due("kinds", x.kinds(n, all), model.kinds(n, all), n, all ? 1 : 0);
                break;
            case 19:
                due("fewest", x.fewest(slot), model.fewest(slot), slot);
                break;
            default:
                due("first", x.first(slot), model.first(slot), slot);
        }
    }

    private void callOnNets(int call) {
        int slot = slot();
        int last = Math.max(0, (int) model.count(1) - 1);
        int gate = number(0, last);
        boolean is = random.nextBoolean();
        switch (call) {
            case 21:
                if (random.nextInt(8) == 0) {
                    int n = number(1, 4);
                    due("net", x.net(n), model.net(n), n);
                }
                break;
            case 22:
                for (int time = 0; time < 3; time++) {
                    int from = number(0, (int) (model.count(0) + model.count(1)) - 1);
                    int w = number(-9, 9);
                    calls++;
                    due("put", x.put(from, w), model.put(from, w), from, w);
                }
                break;
            case 23: {
                int bound = random.nextInt(3) == 0 ? number(-99, 99) : number(-4, 4);
                due("add", x.add(bound), model.add(bound), bound);
                break;
            }
            case 24:
                due("tell", x.tell(slot, gate), model.tell(slot, gate), slot, gate);
                break;
            case 25:
                due("unlike", x.unlike(slot), model.unlike(slot), slot);
                break;
            case 26:
                due("depth", x.depth(gate), model.depth(gate), gate);
                break;
            case 27:
                due("idle", x.idle(gate, is), model.idle(gate, is), gate, is ? 1 : 0);
                break;
            default:
                due("count", x.count(gate), model.count(gate), gate);
        }
    }
}
