/** All promises at once: long runs of mixed calls, each answer held against the document's words in plain form. */
public final class PlainBenchTest {
    private static final int CALLS = 512;
    private static final int[] WILD = {-1, -2, Integer.MAX_VALUE, Integer.MIN_VALUE, 40000, 20000};

    private final GateBench bench = new GateBench();
    private final PlainBench plain = new PlainBench();
    private final int most;
    private final int readers;
    private final Picker picker;

    private PlainBenchTest(long seed, int most, int readers) {
        this.picker = new Picker(seed);
        this.most = most;
        this.readers = readers;
    }

    public static void main(String[] args) {
        Checks.sentence("all promises, as PlainBench has them");
        for (int run = 1; run <= 400; run++) {
            // Few inputs let the rules fit often; many let the rows grow far.
            int most = new int[] {2, 3, 5, 60}[run % 4];
            int readers = run % 3 == 0 ? 1 : 8;
            PlainBenchTest test = new PlainBenchTest(run, most, readers);
            for (int call = 1; call <= CALLS; call++) {
                test.step("run " + run + ", call " + call);
            }
            test.compareAll("run " + run);
        }
        Checks.end();
    }

    private int literal() {
        if (picker.pick(60) == 0) {
            return picker.pick(2) == 0 ? WILD[picker.pick(WILD.length)] : 2 * plain.nodes() + picker.pick(2);
        }
        int all = 2 * plain.nodes();
        return picker.pick(3) == 0 ? Math.max(0, all - 1 - picker.pick(12)) : picker.pick(all);
    }

    private int node() {
        if (picker.pick(30) == 0) {
            return picker.pick(2) == 0 ? WILD[picker.pick(WILD.length)] : plain.nodes();
        }
        return picker.pick(2) == 0 ? picker.pick(Math.min(plain.nodes(), most + 1)) : picker.pick(plain.nodes());
    }

    private int kind(int count) {
        return picker.pick(40) == 0 ? (picker.pick(2) == 0 ? -1 : count) : picker.pick(count);
    }

    private void same(String call, Checks.Call ours, Checks.Call theirs) {
        Checks.due(call, Checks.outcome(theirs), ours);
    }

    private void step(String at) {
        int a = literal();
        int b = literal();
        int c = literal();
        int what = picker.pick(10 + readers);
        if (plain.inputs() < 2 || what == 0 && plain.inputs() < most) {
            same(at + ": input()", bench::input, plain::input);
        } else if (what < 4) {
            same(at + ": and(" + a + ", " + b + ")", () -> bench.and(a, b), () -> plain.and(a, b));
        } else if (what < 7) {
            int kind = kind(2);
            String call = at + ": join(" + kind + ", " + a + ", " + b + ")";
            same(call, () -> bench.join(kind, a, b), () -> plain.join(kind, a, b));
        } else if (what < 10) {
            int kind = kind(3);
            String call = at + ": three(" + kind + ", " + a + ", " + b + ", " + c + ")";
            same(call, () -> bench.three(kind, a, b, c), () -> plain.three(kind, a, b, c));
        } else {
            look(at, picker.pick(8), a, node());
        }
    }

    private void look(String at, int what, int a, int node) {
        switch (what) {
            case 0, 1 -> {
                boolean on = picker.pick(2) == 0;
                same(at + ": set(" + node + ", " + on + ")", () -> bench.set(node, on), () -> plain.set(node, on));
            }
            case 2 -> same(at + ": value(" + a + ")", () -> bench.value(a), () -> plain.value(a));
            case 3 -> {
                int part = kind(4);
                same(at + ": node(" + node + ", " + part + ")", () -> bench.node(node, part), () -> plain.node(node, part));
            }
            case 4 -> same(at + ": cone(" + a + ")", () -> bench.cone(a), () -> plain.cone(a));
            case 5 -> same(at + ": below(" + node + ", " + a + ")", () -> bench.below(node, a), () -> plain.below(node, a));
            case 6 -> same(at + ": depth(" + a + ")", () -> bench.depth(a), () -> plain.depth(a));
            default -> {
                same(at + ": nodes()", bench::nodes, plain::nodes);
                same(at + ": inputs()", bench::inputs, plain::inputs);
            }
        }
    }

    private void compareAll(String at) {
        same(at + ": nodes()", bench::nodes, plain::nodes);
        same(at + ": inputs()", bench::inputs, plain::inputs);
        for (int n = 0; n < plain.nodes(); n += 1 + picker.pick(20)) {
            int node = n;
            for (int what = 0; what < 8; what++) {
                look(at, what, 2 * node + picker.pick(2), node);
            }
        }
    }
}
