import java.util.ArrayList;
import java.util.List;

/**
 * Illegal argument in all calls: a literal is none, a node is none, in each place of each call; and a call that throws
 * it changes nothing.
 */
public final class RefusalTest {
    private final GateBench bench;
    private final String name;
    private final List<String> calls = new ArrayList<>();
    private final List<Checks.Call> made = new ArrayList<>();

    private RefusalTest(String name, GateBench bench) {
        this.name = name;
        this.bench = bench;
    }

    public static void main(String[] args) {
        new RefusalTest("a new one", new GateBench()).run();
        new RefusalTest("one of inputs alone", Checks.withInputs(3)).run();
        new RefusalTest("one of gates too", Checks.mixed(9)).run();
        // The rows have room for 16 nodes at first, so these stand before, at and behind the end of a row.
        new RefusalTest("one of 15 nodes", Checks.mixed(15)).run();
        new RefusalTest("one of 16 nodes", Checks.mixed(16)).run();
        new RefusalTest("one of 17 nodes", Checks.mixed(17)).run();
        new RefusalTest("one of 32 nodes", Checks.mixed(32)).run();
        Checks.end();
    }

    private void run() {
        int nodes = bench.nodes();
        lastOnesAreTaken(2 * nodes - 1);
        int[] noLiteral = {-1, -2, 2 * nodes, 2 * nodes + 1, 4 * nodes, 40000, Integer.MAX_VALUE, Integer.MIN_VALUE};
        for (int literal : noLiteral) {
            wrongLiteral(literal, 2 * nodes - 1);
        }
        int[] noNode = {-1, nodes, nodes + 1, 2 * nodes, 20000, Integer.MAX_VALUE, Integer.MIN_VALUE};
        for (int node : noNode) {
            wrongNode(node);
        }
        for (int node = 0; node < nodes; node++) {
            if (bench.node(node, 0) != 1) {
                noInput(node);
            }
        }
        int[] noKind = {-1, 2, 3, 4, Integer.MAX_VALUE, Integer.MIN_VALUE};
        for (int kind : noKind) {
            wrongKind(kind, 2 * nodes - 1);
        }
        nothingChanges();
    }

    private void lastOnesAreTaken(int last) {
        Checks.sentence("a literal is none: the last one is one");
        Checks.due("and of the last literal of " + name, last, () -> bench.and(last, last));
        Checks.due("OR of the last literal of " + name, last, () -> bench.join(0, last, last));
        Checks.due("XOR of the last literal of " + name, 0, () -> bench.join(1, last, last));
        for (int k = 0; k <= 2; k++) {
            int kind = k;
            Checks.due("three(" + kind + ") of the last literal of " + name, last,
                () -> bench.three(kind, last, last, last));
        }
        boolean even = bench.value(last - 1);
        Checks.due("value of the last literal of " + name, !even, () -> bench.value(last));
        int cone = bench.cone(last - 1);
        Checks.due("cone of the last literal of " + name, cone, () -> bench.cone(last));
        int depth = bench.depth(last - 1);
        Checks.due("depth of the last literal of " + name, depth, () -> bench.depth(last));
        Checks.due("node of the last node of " + name, true, () -> bench.node(last / 2, 0) >= 0);
    }

    private void refused(String call, Checks.Call answer) {
        calls.add(call);
        made.add(answer);
    }

    /** What is wrong stands in each place, beside what is right and would make gates, and beside what is wrong too. */
    private void wrongLiteral(int none, int right) {
        refused("value(" + none + ")", () -> bench.value(none));
        refused("cone(" + none + ")", () -> bench.cone(none));
        refused("depth(" + none + ")", () -> bench.depth(none));
        refused("below(1, " + none + ")", () -> bench.below(1, none));
        int[] others = {0, 1, right, none};
        for (int other : others) {
            refused("and(" + none + ", " + other + ")", () -> bench.and(none, other));
            refused("and(" + other + ", " + none + ")", () -> bench.and(other, none));
            for (int k = -1; k <= 2; k++) {
                int kind = k;
                refused("join(" + kind + ", " + none + ", " + other + ")", () -> bench.join(kind, none, other));
                refused("join(" + kind + ", " + other + ", " + none + ")", () -> bench.join(kind, other, none));
            }
            for (int k = -1; k <= 3; k++) {
                wrongOfThree(k, none, other, right);
            }
        }
    }

    private void wrongOfThree(int kind, int none, int other, int right) {
        String start = "three(" + kind + ", ";
        // An early literal, so that with a late one the first gates could be made before the last one is looked at.
        int early = Math.min(2, right);
        refused(start + none + ", " + other + ", " + early + ")", () -> bench.three(kind, none, other, early));
        refused(start + early + ", " + none + ", " + other + ")", () -> bench.three(kind, early, none, other));
        refused(start + other + ", " + early + ", " + none + ")", () -> bench.three(kind, other, early, none));
    }

    private void wrongNode(int none) {
        for (int what = -1; what <= 4; what++) {
            int asked = what;
            refused("node(" + none + ", " + asked + ")", () -> bench.node(none, asked));
        }
        noInput(none);
    }

    private void noInput(int node) {
        refused("set(" + node + ", true)", () -> bench.set(node, true));
        refused("set(" + node + ", false)", () -> bench.set(node, false));
        refused("below(" + node + ", 0)", () -> bench.below(node, 0));
        refused("below(" + node + ", -1)", () -> bench.below(node, -1));
    }

    private void wrongKind(int kind, int right) {
        int early = Math.min(2, right);
        if (kind != 2) {
            refused("three(" + kind + ", ..)", () -> bench.three(kind, early, right - 1, right));
            refused("three(" + kind + ", 0, 0, 0)", () -> bench.three(kind, 0, 0, 0));
        }
        refused("join(" + kind + ", ..)", () -> bench.join(kind, early, right));
        refused("join(" + kind + ", 0, 0)", () -> bench.join(kind, 0, 0));
        if (kind != 2 && kind != 3) {
            refused("node(0, " + kind + ")", () -> bench.node(0, kind));
            refused("node(last, " + kind + ")", () -> bench.node(right / 2, kind));
        }
    }

    private void nothingChanges() {
        String before = Checks.picture(bench);
        int nodes = bench.nodes();
        for (int i = 0; i < made.size(); i++) {
            Checks.sentence("in all calls illegal argument: a literal is none, a node is none");
            Checks.illegalArgument(calls.get(i) + " of " + name, made.get(i));
            Checks.sentence("a call that throws illegal argument changes nothing");
            Checks.due("nodes() after " + calls.get(i), nodes, bench::nodes);
        }
        Checks.due("the picture of " + name + " after what was refused", before, () -> Checks.picture(bench));
    }
}
