import java.util.HashSet;
import java.util.Set;

/**
 * The document's first sentence, held by what AND, OR and the others mean and not by how they are made: whatever the
 * rules do to a gate, its value is the same for every setting of the inputs.
 */
public final class WhatItIsTest {
    private static final int INPUTS = 4;
    private static final int SETTINGS = 1 << INPUTS;
    private static final int RUNS = 60;
    private static final int MAKING_CALLS = 40;

    private final GateBench bench = Checks.withInputs(INPUTS);
    private final Picker picker;

    private WhatItIsTest(long seed) {
        this.picker = new Picker(seed);
    }

    public static void main(String[] args) {
        for (int run = 1; run <= RUNS; run++) {
            WhatItIsTest test = new WhatItIsTest(run);
            for (int call = 0; call < MAKING_CALLS; call++) {
                test.madeValueIsItsMeaning();
            }
            test.sameGateIsNeverMadeTwice();
            test.noneIsMadeWhoseValueARuleTells();
            test.valueHangsOnInputsBelowAlone();
        }
        Checks.end();
    }

    private int make(int what, int a, int b, int c) {
        switch (what) {
            case 0: return bench.and(a, b);
            case 1:
            case 2: return bench.join(what - 1, a, b);
            default: return bench.three(what - 3, a, b, c);
        }
    }

    private static boolean meaning(int what, boolean a, boolean b, boolean c) {
        switch (what) {
            case 0: return a && b;
            case 1: return a || b;
            case 2: return a != b;
            case 3: return a ? b : c;
            case 4: return a ^ b ^ c;
            default: return a && b || c && a != b;
        }
    }

    private void setAll(int setting) {
        for (int node = 1; node <= INPUTS; node++) {
            bench.set(node, (setting >> (node - 1) & 1) == 1);
        }
    }

    /** A literal's values for all settings, a bit for each. */
    private int table(int literal) {
        int bits = 0;
        for (int setting = 0; setting < SETTINGS; setting++) {
            setAll(setting);
            bits |= bench.value(literal) ? 1 << setting : 0;
        }
        return bits;
    }

    private void madeValueIsItsMeaning() {
        Checks.sentence("what it is: its values are told for any setting of the inputs");
        int what = picker.pick(6);
        int a = picker.pick(2 * bench.nodes());
        int b = picker.pick(2 * bench.nodes());
        int c = picker.pick(2 * bench.nodes());
        int made = make(what, a, b, c);
        for (int setting = 0; setting < SETTINGS; setting++) {
            setAll(setting);
            boolean want = meaning(what, bench.value(a), bench.value(b), bench.value(c));
            String call = "value(" + made + "), number " + what + " of " + a + ", " + b + ", " + c;
            Checks.due(call + " in setting " + setting, want, () -> bench.value(made));
        }
    }

    private void sameGateIsNeverMadeTwice() {
        Checks.sentence("what it is: the same gate is never made twice");
        Set<Long> seen = new HashSet<>();
        for (int node = INPUTS + 1; node < bench.nodes(); node++) {
            int gate = node;
            long first = bench.node(gate, 1);
            long second = bench.node(gate, 2);
            Checks.due("gate " + gate + " has its literals in order", true, () -> first < second);
            Checks.due("gate " + gate + " is a new one", true, () -> seen.add(first << 32 | second));
        }
    }

    private void noneIsMadeWhoseValueARuleTells() {
        Checks.sentence("what it is: none is made whose value another literal has by a rule");
        int nodes = bench.nodes();
        for (int node = INPUTS + 1; node < nodes; node++) {
            int gate = node;
            Checks.due("and of gate " + gate + "'s literals", 2 * gate,
                () -> bench.and(bench.node(gate, 1), bench.node(gate, 2)));
        }
        Checks.due("nodes() after that", nodes, bench::nodes);
    }

    private void valueHangsOnInputsBelowAlone() {
        Checks.sentence("what it is: of what a value hangs");
        for (int literal = 0; literal < 2 * bench.nodes(); literal++) {
            int asked = literal;
            int bits = table(asked);
            for (int node = 1; node <= INPUTS; node++) {
                if (changesWith(bits, node)) {
                    int input = node;
                    Checks.due("below(" + input + ", " + asked + "), whose value changes with it", true,
                        () -> bench.below(input, asked));
                }
            }
        }
    }

    private static boolean changesWith(int bits, int node) {
        for (int setting = 0; setting < SETTINGS; setting++) {
            int other = setting ^ 1 << (node - 1);
            if ((bits >> setting & 1) != (bits >> other & 1)) {
                return true;
            }
        }
        return false;
    }
}
