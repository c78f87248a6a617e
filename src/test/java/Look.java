import java.util.ArrayList;
import java.util.List;

/** All that later calls show of an object, read off by calls. */
final class Look {

    private static final int LAST_SLOT = 7;

    private final WeighGates x;
    private final List<String> lines = new ArrayList<>();

    private Look(WeighGates x) {
        this.x = x;
    }

    /** The object is used up by it: its last slot and its net change. */
    static List<String> at(WeighGates x) {
        Look look = new Look(x);
        look.tables();
        look.put();
        look.gates();
        look.nextGate();
        return look.lines;
    }

    private void line(String call, long answer) {
        lines.add(call + " answers " + answer);
    }

    private void tables() {
        for (int slot = 0; slot <= LAST_SLOT; slot++) {
            line("bits(" + slot + ")", x.bits(slot));
            line("inputs(" + slot + ")", x.inputs(slot));
            line("unlike(" + slot + ")", x.unlike(slot));
        }
    }

    private void put() {
        int sources = x.count(0) + x.count(1);
        line("count(0)", x.count(0));
        line("count(1)", x.count(1));
        for (int from = 0; from < sources; from++) {
            int was = x.put(from, 0);
            x.put(from, was);
            line("put(" + from + ", 0)", was);
        }
    }

    private void gates() {
        for (int gate = 0; gate < x.count(1); gate++) {
            line("depth(" + gate + ")", x.depth(gate));
            line("idle(" + gate + ", false)", x.idle(gate, false));
            line("idle(" + gate + ", true)", x.idle(gate, true));
            line("tell(7, " + gate + ")", x.tell(LAST_SLOT, gate));
            line("bits(7)", x.bits(LAST_SLOT));
            line("inputs(7)", x.inputs(LAST_SLOT));
        }
    }

    private void nextGate() {
        int next = x.count(1);
        line("add(1)", x.add(1));
        line("tell(7, " + next + ")", x.tell(LAST_SLOT, next));
        line("bits(7)", x.bits(LAST_SLOT));
        line("depth(" + next + ")", x.depth(next));
        line("net(4)", x.net(4));
        line("put(3, 0)", x.put(3, 0));
    }
}
